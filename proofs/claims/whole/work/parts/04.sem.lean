/-! THE PURE MACHINE: what the program does, on a heap of numbered cells. Its walk is a function; 05.sound ties it to the machine. -/
abbrev j_Sh : Type := Nat ⊕ (Nat × Nat)
abbrev j_H : Type := List j_Sh × (Nat → Nat → Int32) × (Nat → Nat → Int64) × (Nat → Nat → Option Nat)
def j_sh (H : j_H) (a : Nat) : Option j_Sh := H.1[a]?
def j_I (H : j_H) (a k : Nat) : Int32 := H.2.1 a k
def j_L (H : j_H) (a k : Nat) : Int64 := H.2.2.1 a k
def j_R (H : j_H) (a k : Nat) : Option Nat := H.2.2.2 a k
def j_up {α : Type} (f : Nat → Nat → α) (a k : Nat) (v : α) : Nat → Nat → α := fun b j => if b = a ∧ j = k then v else f b j
def j_sI (H : j_H) (a k : Nat) (v : Int32) : j_H := (H.1, j_up H.2.1 a k v, H.2.2.1, H.2.2.2)
def j_sL (H : j_H) (a k : Nat) (v : Int64) : j_H := (H.1, H.2.1, j_up H.2.2.1 a k v, H.2.2.2)
def j_sR (H : j_H) (a k : Nat) (v : Option Nat) : j_H := (H.1, H.2.1, H.2.2.1, j_up H.2.2.2 a k v)
def j_z {α : Type} (f : Nat → Nat → α) (a : Nat) (v : α) : Nat → Nat → α := fun b j => if b = a then v else f b j
/-- a new cell, all of it 0 or null -/
def j_nw (H : j_H) (x : j_Sh) : j_H := (H.1 ++ [x], j_z H.2.1 H.1.length 0, j_z H.2.2.1 H.1.length 0, j_z H.2.2.2 H.1.length none)
def j_cp {α : Type} (f : Nat → Nat → α) (a i b j n : Nat) : Nat → Nat → α := fun c k => if c = b ∧ (j ≤ k ∧ k < j + n) then f a (i + (k - j)) else f c k
def j_nf (c : Nat) : Nat := (j_fl.getD c []).length
def j_fq (c k : Nat) : Option (Nat × Nat × Nat × Bool × Nat) := (j_fl.getD c [])[k]?
def j_ft (c k : Nat) : Nat := match j_fq c k with
  | some (_, _, _, _, t) => t
  | none => 0
/-- what a field of a type holds -/
def j_fv (t : Nat) (H : j_H) (a k : Nat) : Value := if t = 1 then .long (j_L H a k) else if t = 2 then va_rf (j_R H a k) else .int (j_I H a k)
/-- what an array's cell holds -/
def j_av (t : Nat) (H : j_H) (a k : Nat) : Value := if t = 1 then .long (j_L H a k) else if t = 4 ∨ t = 5 ∨ t = 6 then va_rf (j_R H a k) else .int (j_I H a k)
def j_oc (al : List Nat) (H : j_H) (a : Nat) : Bool := match j_sh H a with
  | some (.inl c) => al.contains c
  | _ => false
def j_ia (ts : List Nat) (H : j_H) (a : Nat) : Bool := match j_sh H a with
  | some (.inr q) => ts.contains q.1
  | _ => false
def j_ln (H : j_H) (a : Nat) : Nat := match j_sh H a with
  | some (.inr q) => q.2
  | _ => 0
def j_ib (i : Int32) (n : Nat) : Bool := decide (0 ≤ i.toInt) && decide (i.toInt < (n : Int))
def j_ix (i : Int32) : Nat := i.toInt.toNat
def j_u : Value := .float 0
def j_kn : Value → Bool
  | .int _ => true
  | .long _ => true
  | .ref _ => true
  | .null => true
  | _ => false
def j_c1 : Value → Bool
  | .long _ => false
  | .double _ => false
  | _ => true
def j_st (loc : List Value) (i : Nat) (v : Value) : List Value := match i with
  | 0 => loc.set 0 v
  | k + 1 => if j_c1 (loc.getD k j_u) then loc.set (k + 1) v else (loc.set k j_u).set (k + 1) v
def j_st2 (loc : List Value) (i : Nat) (v : Value) : List Value := (j_st loc i v).set (i + 1) j_u
def j_sl (args : List Value) : List Value := args.flatMap fun v => if j_c1 v then [v] else [v, j_u]
def j_ent (ml : Nat) (args : List Value) : List Value := j_sl args ++ List.replicate (ml - (j_sl args).length) j_u
/-- a step: on (a place, locals, stack, heap), out with an answer, or a call -/
abbrev j_Act : Type := ((Nat × List Value × List Value × j_H) ⊕ (Option Value × j_H)) ⊕ (Nat × List Value × Nat × List Value × List Value)
def j_nx (pc : Nat) (loc stk : List Value) (H : j_H) : Option j_Act := some (.inl (.inl (pc, loc, stk, H)))
def j_tg (pc : Nat) (off : Int) : Nat := ((pc : Int) + off).toNat
def j_cmp (c : Jvm.ClassFile.Cond) (x y : Int32) : Bool := match c with
  | .eq => decide (x = y)
  | .ne => decide (x ≠ y)
  | .lt => decide (x < y)
  | .ge => decide (y ≤ x)
  | .gt => decide (y < x)
  | .le => decide (x ≤ y)
def j_br (c : Bool) (pc t : Nat) (loc stk : List Value) (H : j_H) : Option j_Act := if c then j_nx t loc stk H else j_nx (pc + 3) loc stk H
def j_rok (rc : Nat) (x : Int32) : Bool := if rc = 1 then true else if rc = 4 then decide (x = 0) || decide (x = 1) else if rc = 5 then decide (-128 ≤ x.toInt) && decide (x.toInt ≤ 127) else if rc = 6 then decide (0 ≤ x.toInt) && decide (x.toInt ≤ 65535) else false
def j_sw (lo : Int) (dflt : Int) (offs : List Int) (x : Int) : Int := if x < lo then dflt else match offs[(x - lo).toNat]? with
  | some o => o
  | none => dflt
def j_lk (dflt : Int) (x : Int) : List (Int × Int) → Int
  | [] => dflt
  | (a, o) :: r => if x = a then o else j_lk dflt x r
def j_cat (s : List Value) : Nat := (s.map Value.category).sum
def j_do (n y pc : Nat) (loc stk : List Value) : Option j_Act :=
  if n ≤ stk.length ∧ j_cat (stk.drop n) ≤ 8 ∧ (j_sl (stk.take n).reverse).length ≤ j_ml y then some (.inr (y, (stk.take n).reverse, pc, loc, stk.drop n)) else none
def j_dsp (c : Nat) : List Nat → Option Nat
  | s :: y :: _ :: _ :: _ :: _ :: r => if s = c then some y else j_dsp c r
  | _ => none
def j_io (c : Nat) : List Nat → Option Bool
  | s :: r :: _ :: l => if s = c then some (r != 0) else j_io c l
  | _ => none
def j_pr (c : Nat) : List Nat → Bool
  | s :: _ :: l => s == c || j_pr c l
  | _ => false
def j_this (n : Nat) (stk : List Value) (H : j_H) : Option Nat := match stk[n - 1]? with
  | some (.ref a) => match j_sh H a with
    | some (.inl c) => if n = 0 then none else some c
    | _ => none
  | _ => none
/-- a call, by the row's numbers -/
def j_inv (pc : Nat) (aux : List Nat) (loc stk : List Value) (H : j_H) : Option j_Act := match aux with
  | 0 :: n :: y :: _ => j_do n y (pc + 3) loc stk
  | 1 :: n :: y :: _ => match stk[n - 1]? with
    | some (.ref a) => if n = 0 ∨ a = 11 then none else j_do n y (pc + 3) loc stk
    | _ => none
  | 2 :: n :: y :: _ :: _ :: _ :: _ :: _ :: c :: _ => if j_this n stk H = some c then j_do n y (pc + 3) loc stk else none
  | 3 :: n :: _ :: _ :: _ :: _ :: _ :: _ :: l => match j_this n stk H with
    | some c => match j_dsp c l with
      | some y => j_do n y (pc + 3) loc stk
      | none => none
    | none => none
  | 4 :: n :: y :: _ :: _ :: _ :: _ :: _ :: _ :: _ :: _ :: _ :: al => match j_this n stk H with
    | some c => if al.contains c then j_do n y (pc + 3) loc stk else none
    | none => none
  | 5 :: _ => match stk with
    | .ref a :: s => if ¬ a = 11 ∧ j_cat s ≤ 8 then j_nx (pc + 3) loc s H else none
    | _ => none
  | 6 :: _ :: _ :: _ :: _ :: _ :: _ :: t :: _ => match stk with
    | .int n :: .int j :: .ref b :: .int i :: .ref a :: s =>
      if j_cat s ≤ 8 ∧ j_ia [t] H a = true ∧ j_ia [t] H b = true ∧ 0 ≤ n.toInt ∧ 0 ≤ i.toInt ∧ 0 ≤ j.toInt ∧ j_ix i + j_ix n ≤ j_ln H a ∧ j_ix j + j_ix n ≤ j_ln H b then
        (if t = 0 then j_nx (pc + 3) loc s (H.1, j_cp H.2.1 a (j_ix i) b (j_ix j) (j_ix n), H.2.2.1, H.2.2.2) else if t = 1 then j_nx (pc + 3) loc s (H.1, H.2.1, j_cp H.2.2.1 a (j_ix i) b (j_ix j) (j_ix n), H.2.2.2) else none)
      else none
    | _ => none
  | _ => none
def j_put (t : Nat) (H : j_H) (a k : Nat) (v : Value) : Option j_H := match v with
  | .int x => if t = 0 then some (j_sI H a k x) else if t = 3 then (if x = 0 ∨ x = 1 then some (j_sI H a k x) else none) else none
  | .long x => if t = 1 then some (j_sL H a k x) else none
  | .ref q => if t = 2 then some (j_sR H a k (some q)) else none
  | .null => if t = 2 then some (j_sR H a k none) else none
  | _ => none
def j_nwa (pc t : Nat) (loc : List Value) (n : Int32) (s : List Value) (H : j_H) (len : Nat) : Option j_Act :=
  if 0 ≤ n.toInt ∧ n.toInt ≤ 1000 then j_nx (pc + len) loc (.ref H.1.length :: s) (j_nw H (.inr (t, j_ix n))) else none
def j_ins (M pc : Nat) (i : Instr) (len : Nat) (aux : List Nat) (loc stk : List Value) (H : j_H) : Option j_Act := match i with
  | .aconst_null => j_nx (pc + len) loc (.null :: stk) H
  | .iconst c => j_nx (pc + len) loc (.int (Int32.ofInt c) :: stk) H
  | .bipush c => j_nx (pc + len) loc (.int (Int32.ofInt c) :: stk) H
  | .sipush c => j_nx (pc + len) loc (.int (Int32.ofInt c) :: stk) H
  | .lconst c => j_nx (pc + len) loc (.long (Int64.ofInt (c : Nat)) :: stk) H
  | .ldc _ => match aux with
    | [0, _, s, v] => j_nx (pc + len) loc (.int (Int32.ofInt (j_int s v)) :: stk) H
    | [1, k] => if k < 5 then j_nx (pc + len) loc (.ref k :: stk) H else none
    | _ => none
  | .ldc_w _ => match aux with
    | [0, _, s, v] => j_nx (pc + len) loc (.int (Int32.ofInt (j_int s v)) :: stk) H
    | _ => none
  | .ldc2_w _ => match aux with
    | [_, s, v] => j_nx (pc + len) loc (.long (Int64.ofInt (j_int s v)) :: stk) H
    | _ => none
  | .iload_n k => match loc[(k : Nat)]? with
    | some (.int x) => j_nx (pc + len) loc (.int x :: stk) H
    | _ => none
  | .iload k => match loc[k]? with
    | some (.int x) => j_nx (pc + len) loc (.int x :: stk) H
    | _ => none
  | .lload_n k => match loc[(k : Nat)]? with
    | some (.long x) => j_nx (pc + len) loc (.long x :: stk) H
    | _ => none
  | .lload k => match loc[k]? with
    | some (.long x) => j_nx (pc + len) loc (.long x :: stk) H
    | _ => none
  | .aload_n k => match loc[(k : Nat)]? with
    | some (.ref x) => j_nx (pc + len) loc (.ref x :: stk) H
    | some .null => j_nx (pc + len) loc (.null :: stk) H
    | _ => none
  | .aload k => match loc[k]? with
    | some (.ref x) => j_nx (pc + len) loc (.ref x :: stk) H
    | some .null => j_nx (pc + len) loc (.null :: stk) H
    | _ => none
  | .istore_n k => match stk with
    | .int x :: s => if (k : Nat) < loc.length then j_nx (pc + len) (j_st loc k (.int x)) s H else none
    | _ => none
  | .istore k => match stk with
    | .int x :: s => if k < loc.length then j_nx (pc + len) (j_st loc k (.int x)) s H else none
    | _ => none
  | .lstore_n k => match stk with
    | .long x :: s => if (k : Nat) + 1 < loc.length then j_nx (pc + len) (j_st2 loc k (.long x)) s H else none
    | _ => none
  | .lstore k => match stk with
    | .long x :: s => if k + 1 < loc.length then j_nx (pc + len) (j_st2 loc k (.long x)) s H else none
    | _ => none
  | .astore_n k => match stk with
    | .ref x :: s => if (k : Nat) < loc.length ∧ x ≠ 11 then j_nx (pc + len) (j_st loc k (.ref x)) s H else none
    | .null :: s => if (k : Nat) < loc.length then j_nx (pc + len) (j_st loc k .null) s H else none
    | _ => none
  | .astore k => match stk with
    | .ref x :: s => if k < loc.length ∧ x ≠ 11 then j_nx (pc + len) (j_st loc k (.ref x)) s H else none
    | .null :: s => if k < loc.length then j_nx (pc + len) (j_st loc k .null) s H else none
    | _ => none
  | .iinc k c => match loc[k]? with
    | some (.int x) => j_nx (pc + len) (loc.set k (.int (x + Int32.ofInt c))) stk H
    | _ => none
  | .iadd => match stk with
    | .int y :: .int x :: s => j_nx (pc + len) loc (.int (x + y) :: s) H
    | _ => none
  | .isub => match stk with
    | .int y :: .int x :: s => j_nx (pc + len) loc (.int (x - y) :: s) H
    | _ => none
  | .imul => match stk with
    | .int y :: .int x :: s => j_nx (pc + len) loc (.int (x * y) :: s) H
    | _ => none
  | .iand => match stk with
    | .int y :: .int x :: s => j_nx (pc + len) loc (.int (x &&& y) :: s) H
    | _ => none
  | .ior => match stk with
    | .int y :: .int x :: s => j_nx (pc + len) loc (.int (x ||| y) :: s) H
    | _ => none
  | .ixor => match stk with
    | .int y :: .int x :: s => j_nx (pc + len) loc (.int (x ^^^ y) :: s) H
    | _ => none
  | .idiv => match stk with
    | .int y :: .int x :: s => if y = 0 then none else j_nx (pc + len) loc (.int (x / y) :: s) H
    | _ => none
  | .irem => match stk with
    | .int y :: .int x :: s => if y = 0 then none else j_nx (pc + len) loc (.int (x - x / y * y) :: s) H
    | _ => none
  | .ineg => match stk with
    | .int x :: s => j_nx (pc + len) loc (.int (-x) :: s) H
    | _ => none
  | .ishl => match stk with
    | .int y :: .int x :: s => j_nx (pc + len) loc (.int (x <<< (y &&& 31)) :: s) H
    | _ => none
  | .ishr => match stk with
    | .int y :: .int x :: s => j_nx (pc + len) loc (.int (x >>> (y &&& 31)) :: s) H
    | _ => none
  | .iushr => match stk with
    | .int y :: .int x :: s => j_nx (pc + len) loc (.int (x.toUInt32 >>> (y.toUInt32 &&& Int32.toUInt32 31)).toInt32 :: s) H
    | _ => none
  | .ladd => match stk with
    | .long y :: .long x :: s => j_nx (pc + len) loc (.long (x + y) :: s) H
    | _ => none
  | .lmul => match stk with
    | .long y :: .long x :: s => j_nx (pc + len) loc (.long (x * y) :: s) H
    | _ => none
  | .land => match stk with
    | .long y :: .long x :: s => j_nx (pc + len) loc (.long (x &&& y) :: s) H
    | _ => none
  | .lor => match stk with
    | .long y :: .long x :: s => j_nx (pc + len) loc (.long (x ||| y) :: s) H
    | _ => none
  | .lxor => match stk with
    | .long y :: .long x :: s => j_nx (pc + len) loc (.long (x ^^^ y) :: s) H
    | _ => none
  | .ldiv => match stk with
    | .long y :: .long x :: s => if y = 0 then none else j_nx (pc + len) loc (.long (x / y) :: s) H
    | _ => none
  | .lrem => match stk with
    | .long y :: .long x :: s => if y = 0 then none else j_nx (pc + len) loc (.long (x - x / y * y) :: s) H
    | _ => none
  | .lshl => match stk with
    | .int y :: .long x :: s => j_nx (pc + len) loc (.long (x <<< (y.toInt64 &&& 63)) :: s) H
    | _ => none
  | .lshr => match stk with
    | .int y :: .long x :: s => j_nx (pc + len) loc (.long (x >>> (y.toInt64 &&& 63)) :: s) H
    | _ => none
  | .lcmp => match stk with
    | .long y :: .long x :: s => j_nx (pc + len) loc (.int (lg_cmp x y) :: s) H
    | _ => none
  | .i2l => match stk with
    | .int x :: s => j_nx (pc + len) loc (.long x.toInt64 :: s) H
    | _ => none
  | .l2i => match stk with
    | .long x :: s => j_nx (pc + len) loc (.int x.toInt32 :: s) H
    | _ => none
  | .i2b => match stk with
    | .int x :: s => j_nx (pc + len) loc (.int x.toInt8.toInt32 :: s) H
    | _ => none
  | .i2s => match stk with
    | .int x :: s => j_nx (pc + len) loc (.int x.toInt16.toInt32 :: s) H
    | _ => none
  | .i2c => match stk with
    | .int x :: s => j_nx (pc + len) loc (.int (x.toUInt32 % 65536).toInt32 :: s) H
    | _ => none
  | .dup => match stk with
    | .int x :: s => j_nx (pc + len) loc (.int x :: .int x :: s) H
    | .ref x :: s => j_nx (pc + len) loc (.ref x :: .ref x :: s) H
    | _ => none
  | .dup2 => match stk with
    | .long x :: s => j_nx (pc + len) loc (.long x :: .long x :: s) H
    | .int x :: .int y :: s => j_nx (pc + len) loc (.int x :: .int y :: .int x :: .int y :: s) H
    | .int x :: .ref y :: s => j_nx (pc + len) loc (.int x :: .ref y :: .int x :: .ref y :: s) H
    | _ => none
  | .pop => match stk with
    | .int _ :: s => j_nx (pc + len) loc s H
    | _ => none
  | .ifCond c off => match stk with
    | .int x :: s => j_br (j_cmp c x 0) pc (j_tg pc off) loc s H
    | _ => none
  | .if_icmp c off => match stk with
    | .int y :: .int x :: s => j_br (j_cmp c x y) pc (j_tg pc off) loc s H
    | _ => none
  | .ifnull off => match stk with
    | .ref x :: s => if x = 11 then none else j_nx (pc + 3) loc s H
    | .null :: s => j_nx (j_tg pc off) loc s H
    | _ => none
  | .ifnonnull off => match stk with
    | .ref x :: s => if x = 11 then none else j_nx (j_tg pc off) loc s H
    | .null :: s => j_nx (pc + 3) loc s H
    | _ => none
  | .goto off => j_nx (j_tg pc off) loc stk H
  | .tableswitch dflt lo hi offs => match stk with
    | .int x :: s => j_nx (j_tg pc (if hi < x.toInt then dflt else j_sw lo dflt offs.toList x.toInt)) loc s H
    | _ => none
  | .lookupswitch dflt ps => match stk with
    | .int x :: s => j_nx (j_tg pc (j_lk dflt x.toInt ps.toList)) loc s H
    | _ => none
  | .getfield _ => match aux with
    | _ :: _ :: t :: k :: _ :: al => match stk with
      | .ref a :: s => if j_oc al H a then j_nx (pc + len) loc (j_fv t H a k :: s) H else none
      | _ => none
    | _ => none
  | .putfield _ => match aux with
    | _ :: _ :: t :: k :: _ :: _ :: al => match stk with
      | v :: .ref a :: s => if j_oc al H a then (match j_put t H a k v with
        | some H' => j_nx (pc + len) loc s H'
        | none => none) else none
      | _ => none
    | _ => none
  | .getstatic _ => match aux with
    | [_, 0] => j_nx (pc + len) loc (.int 1 :: stk) H
    | [_, 1] => j_nx (pc + len) loc (.ref 11 :: stk) H
    | _ => none
  | .arraylength => match stk with
    | .ref a :: s => if j_ia [0, 1, 2, 3, 4, 5, 6, 8, 9] H a then j_nx (pc + len) loc (.int (Int32.ofInt (j_ln H a : Nat)) :: s) H else none
    | _ => none
  | .iaload => match stk with
    | .int i :: .ref a :: s => if j_ia [0, 8] H a && j_ib i (j_ln H a) then j_nx (pc + len) loc (.int (j_I H a (j_ix i)) :: s) H else none
    | _ => none
  | .laload => match stk with
    | .int i :: .ref a :: s => if j_ia [1] H a && j_ib i (j_ln H a) then j_nx (pc + len) loc (.long (j_L H a (j_ix i)) :: s) H else none
    | _ => none
  | .baload => match stk with
    | .int i :: .ref a :: s => if j_ia [2, 3, 9] H a && j_ib i (j_ln H a) then j_nx (pc + len) loc (.int (j_I H a (j_ix i)) :: s) H else none
    | _ => none
  | .aaload => match stk with
    | .int i :: .ref a :: s => if j_ia aux H a && j_ib i (j_ln H a) then j_nx (pc + len) loc (va_rf (j_R H a (j_ix i)) :: s) H else none
    | _ => none
  | .iastore => match stk with
    | .int x :: .int i :: .ref a :: s => if j_ia [0] H a && j_ib i (j_ln H a) then j_nx (pc + len) loc s (j_sI H a (j_ix i) x) else none
    | _ => none
  | .lastore => match stk with
    | .long x :: .int i :: .ref a :: s => if j_ia [1] H a && j_ib i (j_ln H a) then j_nx (pc + len) loc s (j_sL H a (j_ix i) x) else none
    | _ => none
  | .bastore => match stk with
    | .int x :: .int i :: .ref a :: s => match aux with
      | [2] => if j_ia [2] H a && j_ib i (j_ln H a) then j_nx (pc + len) loc s (j_sI H a (j_ix i) x.toInt8.toInt32) else none
      | [3] => if j_ia [3] H a && j_ib i (j_ln H a) && (decide (x = 0) || decide (x = 1)) then j_nx (pc + len) loc s (j_sI H a (j_ix i) x) else none
      | _ => none
    | _ => none
  | .aastore => match aux with
    | t :: _ :: l => match stk with
      | .ref v :: .int i :: .ref a :: s => match j_sh H v with
        | some (.inl c) => if j_pr c l && (j_ia [t] H a && j_ib i (j_ln H a)) then j_nx (pc + len) loc s (j_sR H a (j_ix i) (some v)) else none
        | _ => none
      | .null :: .int i :: .ref a :: s => if j_ia [t] H a && j_ib i (j_ln H a) then j_nx (pc + len) loc s (j_sR H a (j_ix i) none) else none
      | _ => none
    | _ => none
  | .new _ => match aux with
    | [_, _, _, c] => j_nx (pc + len) loc (.ref H.1.length :: stk) (j_nw H (.inl c))
    | _ => none
  | .newarray _ => match aux with
    | [_, t] => match stk with
      | .int n :: s => j_nwa pc t loc n s H len
      | _ => none
    | _ => none
  | .anewarray _ => match aux with
    | [_, _, _, t] => match stk with
      | .int n :: s => j_nwa pc t loc n s H len
      | _ => none
    | _ => none
  | .instanceof _ => match aux with
    | _ :: _ :: l => match stk with
      | .ref a :: s => match j_sh H a with
        | some (.inl c) => match j_io c l with
          | some b => j_nx (pc + len) loc (.int (if b then 1 else 0) :: s) H
          | none => none
        | _ => none
      | _ => none
    | _ => none
  | .invokestatic _ => j_inv pc aux loc stk H
  | .invokespecial _ => j_inv pc aux loc stk H
  | .invokevirtual _ => j_inv pc aux loc stk H
  | .ireturn => match stk with
    | [.int x] => if j_rok (j_rc M) x then some (.inl (.inr (some (.int x), H))) else none
    | _ => none
  | .lreturn => match stk with
    | [.long x] => if j_rc M = 2 then some (.inl (.inr (some (.long x), H))) else none
    | _ => none
  | .areturn => match stk with
    | [.ref x] => if j_rc M = 3 ∧ x ≠ 11 then some (.inl (.inr (some (.ref x), H))) else none
    | [.null] => if j_rc M = 3 then some (.inl (.inr (some .null, H))) else none
    | _ => none
  | .return_ => match stk with
    | [] => if j_rc M = 0 then some (.inl (.inr (none, H))) else none
    | _ => none
  | _ => none
def j_at (M pc : Nat) : Option j_row := (j_tab.getD M []).find? fun r => r.1 == pc
def j_stp (M pc : Nat) (loc stk : List Value) (H : j_H) : Option j_Act := match j_at M pc with
  | some (_, i, len, aux) => j_ins M pc i len aux loc stk H
  | none => none
/-- the walk, with so many steps at most and so many calls open at most -/
def j_rf : Nat → Nat → Nat → Nat → List Value → List Value → j_H → Option (Option Value × j_H)
  | 0, _, _, _, _, _, _ => none
  | n + 1, b, M, pc, loc, stk, H => match j_stp M pc loc stk H with
    | none => none
    | some (.inl (.inl (pc', loc', stk', H'))) => j_rf n b M pc' loc' stk' H'
    | some (.inl (.inr r)) => some r
    | some (.inr (y, args, pc', loc', rest)) => match b with
      | 0 => none
      | b' + 1 => match j_rf n b' y 0 (j_ent (j_ml y) args) [] H with
        | none => none
        | some (v, H') => j_rf n b M pc' loc' (v.toList ++ rest) H'
