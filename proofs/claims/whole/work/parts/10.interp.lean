/-! A SMALL MACHINE OVER NUMBERED CELLS. Values: int, long, null as they are; '.ref i' the i-th made cell; '.retAddr k' the k-th constant object; '.float _' an object or null that nobody looks at (a caught exception). -/
abbrev ai_C : Type := (FieldType × Nat × (Nat → Int32)) ⊕ ((Nat × (Nat → Int64)) ⊕ ((String × Nat × (Nat → Value)) ⊕ (Nat × List Value)))
/-- the made cells; how many cells, how many slots were made -/
abbrev ai_H : Type := List ai_C × Nat × Nat
abbrev ai_num (ty : FieldType) (n : Nat) (f : Nat → Int32) : ai_C := .inl (ty, n, f)
abbrev ai_lng (n : Nat) (f : Nat → Int64) : ai_C := .inr (.inl (n, f))
abbrev ai_refs (C : String) (n : Nat) (g : Nat → Value) : ai_C := .inr (.inr (.inl (C, n, g)))
abbrev ai_obj (ci : Nat) (fs : List Value) : ai_C := .inr (.inr (.inr (ci, fs)))
/-- what an instruction leads to: its kind (0 plain, 1 call, 2 throw, 3 Object's constructor, 4 arraycopy, 5 6 7 the end with an int, a reference, nothing), numbers, a name -/
abbrev ai_R : Type := Nat × List Int × String
/-- place in the bytes, instruction, its length, what it leads to -/
abbrev ai_I : Type := Nat × Instr × Nat × ai_R
/-- the constants: the cell of the k-th constant object -/
abbrev ai_S : Type := Nat → Option ai_C
abbrev ai_L : Type := List (Option Value)
/-- a step that only moves words: the next place (0: the one behind; t + 1: the place t), locals, stack, cells -/
abbrev ai_N : Type := Nat × ai_L × List Value × ai_H
def ai_look (Z : ai_S) (h : List ai_C) (v : Value) : Option ai_C := match v with
  | .ref i => h[i]?
  | .retAddr k => Z k
  | _ => none
def ai_nth (r : ai_R) (k : Nat) : Int := r.2.1.getD k 0
def ai_tgt (r : ai_R) : Nat := (ai_nth r 0).toNat
/-- a word that is a reference -/
def ai_isr (v : Value) : Bool := match v with
  | .ref _ => true
  | .null => true
  | .retAddr _ => true
  | .float _ => true
  | _ => false
def ai_iload (i : Nat) (L : ai_L) (S : List Value) (h : ai_H) : Option ai_N := match L[i]? with
  | some (some (.int x)) => some (0, L, .int x :: S, h)
  | _ => none
def ai_aload (i : Nat) (L : ai_L) (S : List Value) (h : ai_H) : Option ai_N := match L[i]? with
  | some (some v) => if ai_isr v = true then some (0, L, v :: S, h) else none
  | _ => none
def ai_istore (i : Nat) (L : ai_L) (S : List Value) (h : ai_H) : Option ai_N := match S with
  | .int x :: r => if i < L.length then some (0, L.set i (some (.int x)), r, h) else none
  | _ => none
def ai_astore (i : Nat) (L : ai_L) (S : List Value) (h : ai_H) : Option ai_N := match S with
  | v :: r => if ai_isr v = true ∧ i < L.length then some (0, L.set i (some v), r, h) else none
  | _ => none
def ai_inc (i : Nat) (n : Int) (L : ai_L) (S : List Value) (h : ai_H) : Option ai_N := match L[i]? with
  | some (some (.int x)) => some (0, L.set i (some (.int (x + Int32.ofInt n))), S, h)
  | _ => none
def ai_bin (f : Int32 → Int32 → Int32) (L : ai_L) (S : List Value) (h : ai_H) : Option ai_N := match S with
  | .int y :: .int x :: r => some (0, L, .int (f x y) :: r, h)
  | _ => none
def ai_divs (f : Int32 → Int32 → Int32) (L : ai_L) (S : List Value) (h : ai_H) : Option ai_N := match S with
  | .int y :: .int x :: r => if y = 0 then none else some (0, L, .int (f x y) :: r, h)
  | _ => none
def ai_un (f : Int32 → Value) (L : ai_L) (S : List Value) (h : ai_H) : Option ai_N := match S with
  | .int x :: r => some (0, L, f x :: r, h)
  | _ => none
def ai_cmp (c : Jvm.ClassFile.Cond) (x y : Int32) : Bool := match c with
  | .eq => decide (x = y)
  | .ne => !decide (x = y)
  | .lt => decide (x < y)
  | .ge => decide (y ≤ x)
  | .gt => decide (y < x)
  | .le => decide (x ≤ y)
def ai_jump (b : Bool) (r : ai_R) (L : ai_L) (S : List Value) (h : ai_H) : Option ai_N := some (if b then ai_tgt r + 1 else 0, L, S, h)
/-- are they one object? asked only where it can be told -/
def ai_same (x y : Value) : Option Bool := match x with
  | .null => (match y with | .null => some true | .ref _ => some false | .retAddr _ => some false | _ => none)
  | .ref i => (match y with | .null => some false | .ref j => some (decide (i = j)) | _ => none)
  | .retAddr i => (match y with | .null => some false | .retAddr j => some (decide (i = j)) | _ => none)
  | _ => none
def ai_ac (c : ACond) (b : Bool) : Bool := match c with
  | .eq => b
  | .ne => !b
/-- two constant objects are of one class -/
def ai_zk (Z : ai_S) (v w : Value) : Bool := match v with
  | .retAddr k => (match w with
    | .retAddr j => (match Z k with
      | some (.inr (.inr (.inr (ci, _)))) => (match Z j with
        | some (.inr (.inr (.inr (cj, _)))) => decide (ci = cj)
        | _ => false)
      | _ => false)
    | _ => true)
  | _ => true
def ai_nul (x : Value) : Option Bool := match x with
  | .null => some true
  | .ref _ => some false
  | .retAddr _ => some false
  | _ => none
def ai_ald (Z : ai_S) (ty : FieldType) (L : ai_L) (S : List Value) (h : ai_H) : Option ai_N := match S with
  | .int i :: a :: r => (match ai_look Z h.1 a with
    | some (.inl (ty', n, f)) => if ty' = ty ∧ ¬ i < 0 ∧ i.toNatClampNeg < n then some (0, L, .int (f i.toNatClampNeg) :: r, h) else none
    | _ => none)
  | _ => none
def ai_lald (L : ai_L) (S : List Value) (h : ai_H) : Option ai_N := match S with
  | .int i :: .ref a :: r => (match h.1[a]? with
    | some (.inr (.inl (n, f))) => if ¬ i < 0 ∧ i.toNatClampNeg < n then some (0, L, .long (f i.toNatClampNeg) :: r, h) else none
    | _ => none)
  | _ => none
def ai_aald (Z : ai_S) (L : ai_L) (S : List Value) (h : ai_H) : Option ai_N := match S with
  | .int i :: a :: r => (match ai_look Z h.1 a with
    | some (.inr (.inr (.inl (_, n, g)))) => if ¬ i < 0 ∧ i.toNatClampNeg < n then some (0, L, g i.toNatClampNeg :: r, h) else none
    | _ => none)
  | _ => none
def ai_ast (ty : FieldType) (nar : Int32 → Int32) (L : ai_L) (S : List Value) (h : ai_H) : Option ai_N := match S with
  | .int x :: .int i :: .ref a :: r => (match h.1[a]? with
    | some (.inl (ty', n, f)) => if ty' = ty ∧ ¬ i < 0 ∧ i.toNatClampNeg < n then some (0, L, r, h.1.set a (ai_num ty n (upd f i.toNatClampNeg (nar x))), h.2) else none
    | _ => none)
  | _ => none
def ai_last (L : ai_L) (S : List Value) (h : ai_H) : Option ai_N := match S with
  | .long x :: .int i :: .ref a :: r => (match h.1[a]? with
    | some (.inr (.inl (n, f))) => if ¬ i < 0 ∧ i.toNatClampNeg < n then some (0, L, r, h.1.set a (ai_lng n (vp_updL f i.toNatClampNeg x)), h.2) else none
    | _ => none)
  | _ => none
/-- a reference into a row of references: a constant of its class (its name: what the place leads to) -/
def ai_aast (Z : ai_S) (cn : Nat → String) (L : ai_L) (S : List Value) (h : ai_H) : Option ai_N := match S with
  | .retAddr v :: .int i :: .ref a :: r => (match h.1[a]? with
    | some (.inr (.inr (.inl (C, n, g)))) => (match Z v with
      | some (.inr (.inr (.inr (ci, _)))) => if cn ci = C ∧ ¬ i < 0 ∧ i.toNatClampNeg < n then some (0, L, r, h.1.set a (ai_refs C n (va_up g i.toNatClampNeg (.retAddr v))), h.2) else none
      | _ => none)
    | _ => none)
  | _ => none
def ai_alen (Z : ai_S) (L : ai_L) (S : List Value) (h : ai_H) : Option ai_N := match S with
  | a :: r => (match ai_look Z h.1 a with
    | some (.inl (_, n, _)) => some (0, L, .int (Int32.ofNat n) :: r, h)
    | some (.inr (.inl (n, _))) => some (0, L, .int (Int32.ofNat n) :: r, h)
    | some (.inr (.inr (.inl (_, n, _)))) => some (0, L, .int (Int32.ofNat n) :: r, h)
    | _ => none)
  | _ => none
def ai_getf (Z : ai_S) (ci k : Nat) (L : ai_L) (S : List Value) (h : ai_H) : Option ai_N := match S with
  | a :: r => (match ai_look Z h.1 a with
    | some (.inr (.inr (.inr (ci', fs)))) => (match fs[k]? with
      | some v => if ci' = ci then some (0, L, v :: r, h) else none
      | none => none)
    | _ => none)
  | _ => none
def ai_putf (fit : Nat → Nat → Value → Bool) (ci k : Nat) (L : ai_L) (S : List Value) (h : ai_H) : Option ai_N := match S with
  | v :: .ref a :: r => (match h.1[a]? with
    | some (.inr (.inr (.inr (ci', fs)))) => if ci' = ci ∧ k < fs.length ∧ fit ci k v = true then some (0, L, r, h.1.set a (ai_obj ci (fs.set k v)), h.2) else none
    | _ => none)
  | _ => none
/-- what the program is, for the small machine: constants, names of classes, defaults of an object of a class, which values a field takes -/
abbrev ai_G : Type := ai_S × (Nat → String) × (Nat → List Value) × (Nat → Nat → Value → Bool)
/-- the elements of a new array -/
def ai_newa (ty : FieldType) (L : ai_L) (S : List Value) (h : ai_H) : Option ai_N := match S with
  | .int n :: r => if ¬ n < 0 ∧ n.toNatClampNeg ≤ 1048576 then some (0, L, .ref h.1.length :: r, h.1 ++ [if ty = .long then ai_lng n.toNatClampNeg (fun _ => 0) else ai_num ty n.toNatClampNeg (fun _ => 0)], h.2.1 + 1, h.2.2 + n.toNatClampNeg) else none
  | _ => none
def ai_newq (C : String) (L : ai_L) (S : List Value) (h : ai_H) : Option ai_N := match S with
  | .int n :: r => if ¬ n < 0 ∧ n.toNatClampNeg ≤ 1048576 then some (0, L, .ref h.1.length :: r, h.1 ++ [ai_refs C n.toNatClampNeg (fun _ => .null)], h.2.1 + 1, h.2.2 + n.toNatClampNeg) else none
  | _ => none
def ai_new (G : ai_G) (ci : Nat) (L : ai_L) (S : List Value) (h : ai_H) : Option ai_N :=
  some (0, L, .ref h.1.length :: S, h.1 ++ [ai_obj ci (G.2.2.1 ci)], h.2.1 + 1, h.2.2 + (G.2.2.1 ci).length)
/-- a constant on the stack: 1 a number, 2 a constant object, 3 one that nobody looks at -/
def ai_const (r : ai_R) (L : ai_L) (S : List Value) (h : ai_H) : Option ai_N := match ai_nth r 0 with
  | 1 => some (0, L, .int (Int32.ofInt (ai_nth r 1)) :: S, h)
  | 2 => some (0, L, .retAddr (ai_nth r 1).toNat :: S, h)
  | 3 => some (0, L, .float 0 :: S, h)
  | _ => none
def ai_dup (f : Value → List Value → Option (List Value)) (L : ai_L) (S : List Value) (h : ai_H) : Option ai_N := match S with
  | v :: r => if v.category = 1 then (match f v r with
    | some r' => some (0, L, r', h)
    | none => none) else none
  | _ => none
/-- a constant object of the class asked for -/
def ai_isof (G : ai_G) (nm : String) (v : Value) : Bool := match v with
  | .retAddr k => (match G.1 k with
    | some (.inr (.inr (.inr (ci, _)))) => decide (G.2.1 ci = nm)
    | _ => false)
  | _ => false
def ai_sw (t : Nat) (L : ai_L) (S : List Value) (h : ai_H) : Option ai_N := some (t + 1, L, S, h)
def ai_eff (G : ai_G) (i : Instr) (r : ai_R) (L : ai_L) (S : List Value) (h : ai_H) : Option ai_N := match i with
  | .aconst_null => some (0, L, .null :: S, h)
  | .iconst n => some (0, L, .int (Int32.ofInt n) :: S, h)
  | .bipush n => some (0, L, .int (Int8.ofInt n).toInt32 :: S, h)
  | .sipush n => some (0, L, .int (Int16.ofInt n).toInt32 :: S, h)
  | .ldc _ => ai_const r L S h
  | .ldc_w _ => ai_const r L S h
  | .getstatic _ => ai_const r L S h
  | .iload k => ai_iload k L S h
  | .iload_n k => ai_iload k.val L S h
  | .aload k => ai_aload k L S h
  | .aload_n k => ai_aload k.val L S h
  | .istore k => ai_istore k L S h
  | .istore_n k => ai_istore k.val L S h
  | .astore k => ai_astore k L S h
  | .astore_n k => ai_astore k.val L S h
  | .iinc k n => ai_inc k n L S h
  | .iadd => ai_bin (fun x y => x + y) L S h
  | .isub => ai_bin (fun x y => x - y) L S h
  | .imul => ai_bin (fun x y => x * y) L S h
  | .iand => ai_bin (fun x y => x &&& y) L S h
  | .ior => ai_bin (fun x y => x ||| y) L S h
  | .ixor => ai_bin (fun x y => x ^^^ y) L S h
  | .ishl => ai_bin (fun x y => x <<< (y &&& 31)) L S h
  | .ishr => ai_bin (fun x y => x >>> (y &&& 31)) L S h
  | .iushr => ai_bin (fun x y => (x.toUInt32 >>> (y.toUInt32 &&& Int32.toUInt32 31)).toInt32) L S h
  | .idiv => ai_divs (fun x y => x / y) L S h
  | .irem => ai_divs (fun x y => x - x / y * y) L S h
  | .ineg => ai_un (fun x => .int (-x)) L S h
  | .i2b => ai_un (fun x => .int x.toInt8.toInt32) L S h
  | .i2s => ai_un (fun x => .int x.toInt16.toInt32) L S h
  | .i2c => ai_un (fun x => .int (x.toUInt32 % 65536).toInt32) L S h
  | .i2l => ai_un (fun x => .long x.toInt64) L S h
  | .pop => ai_dup (fun _ r => some r) L S h
  | .dup => ai_dup (fun v r => some (v :: v :: r)) L S h
  | .dup_x1 => ai_dup (fun v r => match r with
    | w :: r => if w.category = 1 then some (v :: w :: v :: r) else none
    | _ => none) L S h
  | .dup_x2 => ai_dup (fun v r => match r with
    | w :: z :: r => if w.category = 1 ∧ z.category = 1 then some (v :: w :: z :: v :: r) else none
    | _ => none) L S h
  | .dup2 => ai_dup (fun v r => match r with
    | w :: r => if w.category = 1 then some (v :: w :: v :: w :: r) else none
    | _ => none) L S h
  | .ifCond c _ => (match S with
    | .int x :: S => ai_jump (ai_cmp c x 0) r L S h
    | _ => none)
  | .if_icmp c _ => (match S with
    | .int y :: .int x :: S => ai_jump (ai_cmp c x y) r L S h
    | _ => none)
  | .if_acmp c _ => (match S with
    | y :: x :: S => (match ai_same x y with
      | some b => if ai_zk G.1 x y = true then ai_jump (ai_ac c b) r L S h else none
      | none => none)
    | _ => none)
  | .ifnull _ => (match S with
    | x :: S => (match ai_nul x with
      | some b => ai_jump b r L S h
      | none => none)
    | _ => none)
  | .ifnonnull _ => (match S with
    | x :: S => (match ai_nul x with
      | some b => ai_jump (!b) r L S h
      | none => none)
    | _ => none)
  | .lcmp => (match S with
    | .long y :: .long x :: S => some (0, L, .int (lg_cmp x y) :: S, h)
    | _ => none)
  | .goto _ => ai_jump true r L S h
  | .tableswitch _ lo hi _ => (match S with
    | .int x :: S => ai_sw (if x.toInt < lo ∨ hi < x.toInt then ai_tgt r else (ai_nth r ((x.toInt - lo).toNat + 1)).toNat) L S h
    | _ => none)
  | .getfield _ => ai_getf G.1 (ai_nth r 0).toNat (ai_nth r 1).toNat L S h
  | .putfield _ => ai_putf G.2.2.2 (ai_nth r 0).toNat (ai_nth r 1).toNat L S h
  | .iaload => ai_ald G.1 .int L S h
  | .baload => ai_ald G.1 .byte L S h
  | .saload => ai_ald G.1 .short L S h
  | .laload => ai_lald L S h
  | .aaload => ai_aald G.1 L S h
  | .iastore => ai_ast .int (fun x => x) L S h
  | .bastore => ai_ast .byte (vp_nar .byte) L S h
  | .sastore => ai_ast .short (vp_nar .short) L S h
  | .lastore => ai_last L S h
  | .aastore => ai_aast G.1 G.2.1 L S h
  | .arraylength => ai_alen G.1 L S h
  | .newarray t => ai_newa (newarray.typeOf t) L S h
  | .anewarray _ => ai_newq r.2.2 L S h
  | .new _ => ai_new G (ai_nth r 0).toNat L S h
  | .instanceof _ => (match S with
    | v :: S => if ai_isof G r.2.2 v = true then some (0, L, .int 1 :: S, h) else none
    | _ => none)
  | .checkcast _ => (match S with
    | v :: S => if ai_isof G r.2.2 v = true then some (0, L, v :: S, h) else none
    | _ => none)
  | _ => none
/-- a method: its name, its bytes, how many locals, its answer, the table of what it catches, the same by places (from, to, where, class), its instructions -/
abbrev ai_M : Type := MethodName × ByteArray × Nat × Option FieldType × List (Nat × Nat × Nat × Nat) × List (Nat × Nat × Nat × String) × List ai_I
abbrev ai_Mn (M : ai_M) : MethodName := M.1
abbrev ai_Mb (M : ai_M) : ByteArray := M.2.1
abbrev ai_Ml (M : ai_M) : Nat := M.2.2.1
abbrev ai_Mr (M : ai_M) : Option FieldType := M.2.2.2.1
abbrev ai_Mx (M : ai_M) : List (Nat × Nat × Nat × Nat) := M.2.2.2.2.1
abbrev ai_Mh (M : ai_M) : List (Nat × Nat × Nat × String) := M.2.2.2.2.2.1
abbrev ai_Mc (M : ai_M) : List ai_I := M.2.2.2.2.2.2
/-- how it ends: an answer, or an exception of that class -/
abbrev ai_O : Type := (Option Value ⊕ String) × ai_H
def ai_cov (k : Nat) (x : Nat × Nat × Nat × String) : Bool := decide (x.1 ≤ k) && decide (k < x.2.1)
def ai_catch (hs : List (Nat × Nat × Nat × String)) (k : Nat) : Option (Nat × String) := match hs with
  | [] => none
  | x :: t => if ai_cov k x = true then some (x.2.2.1, x.2.2.2) else ai_catch t k
/-- System.arraycopy between made arrays of one kind -/
def ai_copy (S : List Value) (h : ai_H) : Option (List Value × ai_H) := match S with
  | .int n :: .int dp :: .ref d :: .int sp :: .ref a :: r => if n < 0 ∨ dp < 0 ∨ sp < 0 then none else
    (match h.1[a]? with
    | some (.inl (t0, n0, f)) => (match h.1[d]? with
      | some (.inl (t1, n1, g)) => if t0 = t1 ∧ sp.toNatClampNeg + n.toNatClampNeg ≤ n0 ∧ dp.toNatClampNeg + n.toNatClampNeg ≤ n1 then some (r, h.1.set d (ai_num t1 n1 (va_cpy f g sp.toNatClampNeg dp.toNatClampNeg n.toNatClampNeg)), h.2) else none
      | _ => none)
    | some (.inr (.inr (.inl (C0, n0, f)))) => (match h.1[d]? with
      | some (.inr (.inr (.inl (C1, n1, g)))) => if C0 = C1 ∧ sp.toNatClampNeg + n.toNatClampNeg ≤ n0 ∧ dp.toNatClampNeg + n.toNatClampNeg ≤ n1 then some (r, h.1.set d (ai_refs C1 n1 (va_cpy f g sp.toNatClampNeg dp.toNatClampNeg n.toNatClampNeg)), h.2) else none
      | _ => none)
    | _ => none)
  | _ => none
/-- the words of a call: what is below them weighs at most eight -/
def ai_wt (S : List Value) : Nat := (S.map fun v => v.category).sum
/-- the receiver of a call: none asked (0), an object of the class with that number (1), a made cell (2) -/
def ai_rcv (Z : ai_S) (r : ai_R) (v : Option Value) (h : ai_H) : Bool := match ai_nth r 2 with
  | 0 => true
  | 1 => (match v with
    | some v => (match ai_look Z h.1 v with
      | some (.inr (.inr (.inr (ci, _)))) => decide ((ci : Int) = ai_nth r 3)
      | _ => false)
    | none => false)
  | 2 => (match v with
    | some (.ref _) => true
    | _ => false)
  | _ => false
/-- the machine in a method, k its place; 'rec' does the calls -/
def ai_go (G : ai_G) (rec : Nat → List Value → ai_H → Option ai_O) (M : ai_M) : Nat → Nat → ai_L → List Value → ai_H → Option ai_O
  | 0, _, _, _, _ => none
  | n + 1, k, L, S, h => match (ai_Mc M)[k]? with
    | none => none
    | some (_, i, _, r) => match r.1 with
      | 0 => (match ai_eff G i r L S h with
        | some (t, L', S', h') => ai_go G rec M n (if t = 0 then k + 1 else t - 1) L' S' h'
        | none => none)
      | 1 => (if ai_wt (S.drop (ai_nth r 1).toNat) ≤ 8 ∧ (ai_nth r 1).toNat ≤ S.length ∧ ai_rcv G.1 r ((S.take (ai_nth r 1).toNat).reverse).head? h = true then
          (match rec (ai_nth r 0).toNat ((S.take (ai_nth r 1).toNat).reverse) h with
          | some (.inl v, h') => ai_go G rec M n (k + 1) L (v.toList ++ S.drop (ai_nth r 1).toNat) h'
          | some (.inr E, h') => (match ai_catch (ai_Mh M) k with
            | some (t, nm) => if nm = E then ai_go G rec M n t L [.float 0] h' else none
            | none => some (.inr E, h'))
          | none => none) else none)
      | 2 => if (ai_Mh M).isEmpty = true ∧ ai_wt S ≤ 8 then some (.inr r.2.2, h.1, h.2.1 + 1, h.2.2 + 6) else none
      | 3 => (match S with
        | .ref _ :: S => if ai_wt S ≤ 8 then ai_go G rec M n (k + 1) L S h else none
        | _ => none)
      | 4 => (match ai_copy S h with
        | some (S', h') => if ai_wt S' ≤ 8 then ai_go G rec M n (k + 1) L S' h' else none
        | none => none)
      | 5 => (match S with
        | [.int x] => (match ai_Mr M with
          | some ty => if narrow ty (.int x) = .int x then some (.inl (some (.int x)), h) else none
          | none => none)
        | _ => none)
      | 6 => (match S with
        | [v] => if (ai_nul v).isSome then some (.inl (some v), h) else none
        | _ => none)
      | 7 => (match S with
        | [] => some (.inl none, h)
        | _ => none)
      | _ => none
/-- arguments of one word each, no more than there are locals -/
def ai_argok (args : List Value) (n : Nat) : Bool := decide (args.length ≤ n) && args.all (fun v => decide (v.category = 1))
/-- a call of the mi-th method, at most d deep, no more than F steps in each -/
def ai_run (P : Nat → Option ai_M) (G : ai_G) (F : Nat) : Nat → Nat → List Value → ai_H → Option ai_O
  | 0, _, _, _ => none
  | d + 1, mi, args, h => match P mi with
    | some M => if ai_argok args (ai_Ml M) = true then ai_go G (ai_run P G F d) M F 0 (args.map some ++ List.replicate (ai_Ml M - args.length) none) [] h else none
    | none => none
