section
/-! A SMALL MACHINE OVER NUMBERED CELLS. Values: int, long, null as they are; '.ref i' the i-th made cell; '.retAddr k' the k-th constant object; '.float _' an object or null that nobody looks at (a caught exception). -/
abbrev ai_C : Type := (FieldType × Nat × (Nat → Int32)) ⊕ ((Nat × (Nat → Int64)) ⊕ ((String × Nat × (Nat → Value)) ⊕ (Nat × List Value)))
/-- the made cells; how many cells, how many slots were made -/
abbrev ai_H : Type := List ai_C × Nat × Nat
abbrev ai_num (ty : FieldType) (n : Nat) (f : Nat → Int32) : ai_C := .inl (ty, n, f)
abbrev ai_lng (n : Nat) (f : Nat → Int64) : ai_C := .inr (.inl (n, f))
abbrev ai_refs (C : String) (n : Nat) (g : Nat → Value) : ai_C := .inr (.inr (.inl (C, n, g)))
abbrev ai_obj (ci : Nat) (fs : List Value) : ai_C := .inr (.inr (.inr (ci, fs)))
/-- what an instruction leads to: its kind (0 plain, 1 call, 2 throw, 3 Object's constructor, 4 arraycopy, 5 6 7 the end with an int, a reference, nothing), numbers, a name -/
abbrev ai_R : Type := Nat × List Int × String
/-- place in the bytes, instruction, its length, what it leads to -/
abbrev ai_I : Type := Nat × Instr × Nat × ai_R
/-- the constants: the cell of the k-th constant object -/
abbrev ai_S : Type := Nat → Option ai_C
abbrev ai_L : Type := List (Option Value)
/-- a step that only moves words: the next place (0: the one behind; t + 1: the place t), locals, stack, cells -/
abbrev ai_N : Type := Nat × ai_L × List Value × ai_H
def ai_look (Z : ai_S) (h : List ai_C) (v : Value) : Option ai_C := match v with
  | .ref i => h[i]?
  | .retAddr k => Z k
  | _ => none
def ai_nth (r : ai_R) (k : Nat) : Int := r.2.1.getD k 0
def ai_tgt (r : ai_R) : Nat := (ai_nth r 0).toNat
/-- a word that is a reference -/
def ai_isr (v : Value) : Bool := match v with
  | .ref _ => true
  | .null => true
  | .retAddr _ => true
  | .float _ => true
  | _ => false
def ai_iload (i : Nat) (L : ai_L) (S : List Value) (h : ai_H) : Option ai_N := match L[i]? with
  | some (some (.int x)) => some (0, L, .int x :: S, h)
  | _ => none
def ai_aload (i : Nat) (L : ai_L) (S : List Value) (h : ai_H) : Option ai_N := match L[i]? with
  | some (some v) => if ai_isr v = true then some (0, L, v :: S, h) else none
  | _ => none
def ai_istore (i : Nat) (L : ai_L) (S : List Value) (h : ai_H) : Option ai_N := match S with
  | .int x :: r => if i < L.length then some (0, L.set i (some (.int x)), r, h) else none
  | _ => none
def ai_astore (i : Nat) (L : ai_L) (S : List Value) (h : ai_H) : Option ai_N := match S with
  | v :: r => if ai_isr v = true ∧ i < L.length then some (0, L.set i (some v), r, h) else none
  | _ => none
def ai_inc (i : Nat) (n : Int) (L : ai_L) (S : List Value) (h : ai_H) : Option ai_N := match L[i]? with
  | some (some (.int x)) => some (0, L.set i (some (.int (x + Int32.ofInt n))), S, h)
  | _ => none
def ai_bin (f : Int32 → Int32 → Int32) (L : ai_L) (S : List Value) (h : ai_H) : Option ai_N := match S with
  | .int y :: .int x :: r => some (0, L, .int (f x y) :: r, h)
  | _ => none
def ai_divs (f : Int32 → Int32 → Int32) (L : ai_L) (S : List Value) (h : ai_H) : Option ai_N := match S with
  | .int y :: .int x :: r => if y = 0 then none else some (0, L, .int (f x y) :: r, h)
  | _ => none
def ai_un (f : Int32 → Value) (L : ai_L) (S : List Value) (h : ai_H) : Option ai_N := match S with
  | .int x :: r => some (0, L, f x :: r, h)
  | _ => none
def ai_cmp (c : Jvm.ClassFile.Cond) (x y : Int32) : Bool := match c with
  | .eq => decide (x = y)
  | .ne => !decide (x = y)
  | .lt => decide (x < y)
  | .ge => decide (y ≤ x)
  | .gt => decide (y < x)
  | .le => decide (x ≤ y)
def ai_jump (b : Bool) (r : ai_R) (L : ai_L) (S : List Value) (h : ai_H) : Option ai_N := some (if b then ai_tgt r + 1 else 0, L, S, h)
/-- are they one object? asked only where it can be told -/
def ai_same (x y : Value) : Option Bool := match x with
  | .null => (match y with | .null => some true | .ref _ => some false | .retAddr _ => some false | _ => none)
  | .ref i => (match y with | .null => some false | .ref j => some (decide (i = j)) | _ => none)
  | .retAddr i => (match y with | .null => some false | .retAddr j => some (decide (i = j)) | _ => none)
  | _ => none
def ai_ac (c : ACond) (b : Bool) : Bool := match c with
  | .eq => b
  | .ne => !b
/-- a constant object is one of the table's -/
def ai_zk (Z : ai_S) (v : Value) : Bool := match v with
  | .retAddr k => (Z k).isSome
  | _ => true
def ai_nul (x : Value) : Option Bool := match x with
  | .null => some true
  | .ref _ => some false
  | .retAddr _ => some false
  | _ => none
def ai_ald (Z : ai_S) (ty : FieldType) (L : ai_L) (S : List Value) (h : ai_H) : Option ai_N := match S with
  | .int i :: a :: r => (match ai_look Z h.1 a with
    | some (.inl (ty', n, f)) => if ty' = ty ∧ ¬ i < 0 ∧ i.toNatClampNeg < n then some (0, L, .int (f i.toNatClampNeg) :: r, h) else none
    | _ => none)
  | _ => none
def ai_lald (L : ai_L) (S : List Value) (h : ai_H) : Option ai_N := match S with
  | .int i :: .ref a :: r => (match h.1[a]? with
    | some (.inr (.inl (n, f))) => if ¬ i < 0 ∧ i.toNatClampNeg < n then some (0, L, .long (f i.toNatClampNeg) :: r, h) else none
    | _ => none)
  | _ => none
def ai_aald (Z : ai_S) (L : ai_L) (S : List Value) (h : ai_H) : Option ai_N := match S with
  | .int i :: a :: r => (match ai_look Z h.1 a with
    | some (.inr (.inr (.inl (_, n, g)))) => if ¬ i < 0 ∧ i.toNatClampNeg < n then some (0, L, g i.toNatClampNeg :: r, h) else none
    | _ => none)
  | _ => none
def ai_ast (ty : FieldType) (nar : Int32 → Int32) (L : ai_L) (S : List Value) (h : ai_H) : Option ai_N := match S with
  | .int x :: .int i :: .ref a :: r => (match h.1[a]? with
    | some (.inl (ty', n, f)) => if ty' = ty ∧ ¬ i < 0 ∧ i.toNatClampNeg < n then some (0, L, r, h.1.set a (ai_num ty n (upd f i.toNatClampNeg (nar x))), h.2) else none
    | _ => none)
  | _ => none
def ai_last (L : ai_L) (S : List Value) (h : ai_H) : Option ai_N := match S with
  | .long x :: .int i :: .ref a :: r => (match h.1[a]? with
    | some (.inr (.inl (n, f))) => if ¬ i < 0 ∧ i.toNatClampNeg < n then some (0, L, r, h.1.set a (ai_lng n (vp_updL f i.toNatClampNeg x)), h.2) else none
    | _ => none)
  | _ => none
/-- a reference into a row of references: a constant of its class (its name: what the place leads to) -/
def ai_aast (Z : ai_S) (cn : Nat → String) (L : ai_L) (S : List Value) (h : ai_H) : Option ai_N := match S with
  | .retAddr v :: .int i :: .ref a :: r => (match h.1[a]? with
    | some (.inr (.inr (.inl (C, n, g)))) => (match Z v with
      | some (.inr (.inr (.inr (ci, _)))) => if cn ci = C ∧ ¬ i < 0 ∧ i.toNatClampNeg < n then some (0, L, r, h.1.set a (ai_refs C n (va_up g i.toNatClampNeg (.retAddr v))), h.2) else none
      | _ => none)
    | _ => none)
  | _ => none
def ai_alen (Z : ai_S) (L : ai_L) (S : List Value) (h : ai_H) : Option ai_N := match S with
  | a :: r => (match ai_look Z h.1 a with
    | some (.inl (_, n, _)) => some (0, L, .int (Int32.ofNat n) :: r, h)
    | some (.inr (.inl (n, _))) => some (0, L, .int (Int32.ofNat n) :: r, h)
    | some (.inr (.inr (.inl (_, n, _)))) => some (0, L, .int (Int32.ofNat n) :: r, h)
    | _ => none)
  | _ => none
def ai_getf (Z : ai_S) (ci k : Nat) (L : ai_L) (S : List Value) (h : ai_H) : Option ai_N := match S with
  | a :: r => (match ai_look Z h.1 a with
    | some (.inr (.inr (.inr (ci', fs)))) => (match fs[k]? with
      | some v => if ci' = ci then some (0, L, v :: r, h) else none
      | none => none)
    | _ => none)
  | _ => none
def ai_putf (fit : Nat → Nat → Value → Bool) (ci k : Nat) (L : ai_L) (S : List Value) (h : ai_H) : Option ai_N := match S with
  | v :: .ref a :: r => (match h.1[a]? with
    | some (.inr (.inr (.inr (ci', fs)))) => if ci' = ci ∧ k < fs.length ∧ fit ci k v = true then some (0, L, r, h.1.set a (ai_obj ci (fs.set k v)), h.2) else none
    | _ => none)
  | _ => none
/-- what the program is, for the small machine: constants, names of classes, defaults of an object of a class, which values a field takes -/
abbrev ai_G : Type := ai_S × (Nat → String) × (Nat → List Value) × (Nat → Nat → Value → Bool)
/-- the elements of a new array -/
def ai_newa (ty : FieldType) (L : ai_L) (S : List Value) (h : ai_H) : Option ai_N := match S with
  | .int n :: r => if ¬ n < 0 ∧ n.toNatClampNeg ≤ 1048576 then some (0, L, .ref h.1.length :: r, h.1 ++ [if ty = .long then ai_lng n.toNatClampNeg (fun _ => 0) else ai_num ty n.toNatClampNeg (fun _ => 0)], h.2.1 + 1, h.2.2 + n.toNatClampNeg) else none
  | _ => none
def ai_newq (C : String) (L : ai_L) (S : List Value) (h : ai_H) : Option ai_N := match S with
  | .int n :: r => if ¬ n < 0 ∧ n.toNatClampNeg ≤ 1048576 then some (0, L, .ref h.1.length :: r, h.1 ++ [ai_refs C n.toNatClampNeg (fun _ => .null)], h.2.1 + 1, h.2.2 + n.toNatClampNeg) else none
  | _ => none
def ai_new (G : ai_G) (ci : Nat) (L : ai_L) (S : List Value) (h : ai_H) : Option ai_N :=
  some (0, L, .ref h.1.length :: S, h.1 ++ [ai_obj ci (G.2.2.1 ci)], h.2.1 + 1, h.2.2 + (G.2.2.1 ci).length)
/-- a constant on the stack: 1 a number, 2 a constant object, 3 one that nobody looks at -/
def ai_const (r : ai_R) (L : ai_L) (S : List Value) (h : ai_H) : Option ai_N := match ai_nth r 0 with
  | 1 => some (0, L, .int (Int32.ofInt (ai_nth r 1)) :: S, h)
  | 2 => some (0, L, .retAddr (ai_nth r 1).toNat :: S, h)
  | 3 => some (0, L, .float 0 :: S, h)
  | _ => none
def ai_dup (f : Value → List Value → Option (List Value)) (L : ai_L) (S : List Value) (h : ai_H) : Option ai_N := match S with
  | v :: r => if v.category = 1 then (match f v r with
    | some r' => some (0, L, r', h)
    | none => none) else none
  | _ => none
/-- a constant object of the class asked for -/
def ai_isof (G : ai_G) (nm : String) (v : Value) : Bool := match v with
  | .retAddr k => (match G.1 k with
    | some (.inr (.inr (.inr (ci, _)))) => decide (G.2.1 ci = nm)
    | _ => false)
  | _ => false
def ai_sw (t : Nat) (L : ai_L) (S : List Value) (h : ai_H) : Option ai_N := some (t + 1, L, S, h)
def ai_eff (G : ai_G) (i : Instr) (r : ai_R) (L : ai_L) (S : List Value) (h : ai_H) : Option ai_N := match i with
  | .aconst_null => some (0, L, .null :: S, h)
  | .iconst n => some (0, L, .int (Int32.ofInt n) :: S, h)
  | .bipush n => some (0, L, .int (Int8.ofInt n).toInt32 :: S, h)
  | .sipush n => some (0, L, .int (Int16.ofInt n).toInt32 :: S, h)
  | .ldc _ => ai_const r L S h
  | .ldc_w _ => ai_const r L S h
  | .getstatic _ => ai_const r L S h
  | .iload k => ai_iload k L S h
  | .iload_n k => ai_iload k.val L S h
  | .aload k => ai_aload k L S h
  | .aload_n k => ai_aload k.val L S h
  | .istore k => ai_istore k L S h
  | .istore_n k => ai_istore k.val L S h
  | .astore k => ai_astore k L S h
  | .astore_n k => ai_astore k.val L S h
  | .iinc k n => ai_inc k n L S h
  | .iadd => ai_bin (fun x y => x + y) L S h
  | .isub => ai_bin (fun x y => x - y) L S h
  | .imul => ai_bin (fun x y => x * y) L S h
  | .iand => ai_bin (fun x y => x &&& y) L S h
  | .ior => ai_bin (fun x y => x ||| y) L S h
  | .ixor => ai_bin (fun x y => x ^^^ y) L S h
  | .ishl => ai_bin (fun x y => x <<< (y &&& 31)) L S h
  | .ishr => ai_bin (fun x y => x >>> (y &&& 31)) L S h
  | .iushr => ai_bin (fun x y => (x.toUInt32 >>> (y.toUInt32 &&& Int32.toUInt32 31)).toInt32) L S h
  | .idiv => ai_divs (fun x y => x / y) L S h
  | .irem => ai_divs (fun x y => x - x / y * y) L S h
  | .ineg => ai_un (fun x => .int (-x)) L S h
  | .i2b => ai_un (fun x => .int x.toInt8.toInt32) L S h
  | .i2s => ai_un (fun x => .int x.toInt16.toInt32) L S h
  | .i2c => ai_un (fun x => .int (x.toUInt32 % 65536).toInt32) L S h
  | .i2l => ai_un (fun x => .long x.toInt64) L S h
  | .pop => ai_dup (fun _ r => some r) L S h
  | .dup => ai_dup (fun v r => some (v :: v :: r)) L S h
  | .dup_x1 => ai_dup (fun v r => match r with
    | w :: r => if w.category = 1 then some (v :: w :: v :: r) else none
    | _ => none) L S h
  | .dup_x2 => ai_dup (fun v r => match r with
    | w :: z :: r => if w.category = 1 ∧ z.category = 1 then some (v :: w :: z :: v :: r) else none
    | _ => none) L S h
  | .dup2 => ai_dup (fun v r => match r with
    | w :: r => if w.category = 1 then some (v :: w :: v :: w :: r) else none
    | _ => none) L S h
  | .ifCond c _ => (match S with
    | .int x :: S => ai_jump (ai_cmp c x 0) r L S h
    | _ => none)
  | .if_icmp c _ => (match S with
    | .int y :: .int x :: S => ai_jump (ai_cmp c x y) r L S h
    | _ => none)
  | .if_acmp c _ => (match S with
    | y :: x :: S => (match ai_same x y with
      | some b => if ai_zk G.1 x = true ∧ ai_zk G.1 y = true then ai_jump (ai_ac c b) r L S h else none
      | none => none)
    | _ => none)
  | .ifnull _ => (match S with
    | x :: S => (match ai_nul x with
      | some b => ai_jump b r L S h
      | none => none)
    | _ => none)
  | .ifnonnull _ => (match S with
    | x :: S => (match ai_nul x with
      | some b => ai_jump (!b) r L S h
      | none => none)
    | _ => none)
  | .lcmp => (match S with
    | .long y :: .long x :: S => some (0, L, .int (lg_cmp x y) :: S, h)
    | _ => none)
  | .goto _ => ai_jump true r L S h
  | .tableswitch _ lo hi _ => (match S with
    | .int x :: S => ai_sw (if x.toInt < lo ∨ hi < x.toInt then ai_tgt r else (ai_nth r ((x.toInt - lo).toNat + 1)).toNat) L S h
    | _ => none)
  | .getfield _ => ai_getf G.1 (ai_nth r 0).toNat (ai_nth r 1).toNat L S h
  | .putfield _ => ai_putf G.2.2.2 (ai_nth r 0).toNat (ai_nth r 1).toNat L S h
  | .iaload => ai_ald G.1 .int L S h
  | .baload => ai_ald G.1 .byte L S h
  | .saload => ai_ald G.1 .short L S h
  | .laload => ai_lald L S h
  | .aaload => ai_aald G.1 L S h
  | .iastore => ai_ast .int (fun x => x) L S h
  | .bastore => ai_ast .byte (vp_nar .byte) L S h
  | .sastore => ai_ast .short (vp_nar .short) L S h
  | .lastore => ai_last L S h
  | .aastore => ai_aast G.1 G.2.1 L S h
  | .arraylength => ai_alen G.1 L S h
  | .newarray t => ai_newa (newarray.typeOf t) L S h
  | .anewarray _ => ai_newq r.2.2 L S h
  | .new _ => ai_new G (ai_nth r 0).toNat L S h
  | .instanceof _ => (match S with
    | v :: S => if ai_isof G r.2.2 v = true then some (0, L, .int 1 :: S, h) else none
    | _ => none)
  | .checkcast _ => (match S with
    | v :: S => if ai_isof G r.2.2 v = true then some (0, L, v :: S, h) else none
    | _ => none)
  | _ => none
/-- a method: its name, its bytes, how many locals, its answer, the table of what it catches, the same by places (from, to, where, class), its instructions -/
abbrev ai_M : Type := MethodName × ByteArray × Nat × Option FieldType × List (Nat × Nat × Nat × Nat) × List (Nat × Nat × Nat × String) × List ai_I
abbrev ai_Mn (M : ai_M) : MethodName := M.1
abbrev ai_Mb (M : ai_M) : ByteArray := M.2.1
abbrev ai_Ml (M : ai_M) : Nat := M.2.2.1
abbrev ai_Mr (M : ai_M) : Option FieldType := M.2.2.2.1
abbrev ai_Mx (M : ai_M) : List (Nat × Nat × Nat × Nat) := M.2.2.2.2.1
abbrev ai_Mh (M : ai_M) : List (Nat × Nat × Nat × String) := M.2.2.2.2.2.1
abbrev ai_Mc (M : ai_M) : List ai_I := M.2.2.2.2.2.2
/-- how it ends: an answer, or an exception of that class -/
abbrev ai_O : Type := (Option Value ⊕ String) × ai_H
def ai_cov (k : Nat) (x : Nat × Nat × Nat × String) : Bool := decide (x.1 ≤ k) && decide (k < x.2.1)
def ai_catch (hs : List (Nat × Nat × Nat × String)) (k : Nat) : Option (Nat × String) := match hs with
  | [] => none
  | x :: t => if ai_cov k x = true then some (x.2.2.1, x.2.2.2) else ai_catch t k
/-- System.arraycopy between made arrays of one kind -/
def ai_copy (S : List Value) (h : ai_H) : Option (List Value × ai_H) := match S with
  | .int n :: .int dp :: .ref d :: .int sp :: .ref a :: r => if n < 0 ∨ dp < 0 ∨ sp < 0 then none else
    (match h.1[a]? with
    | some (.inl (t0, n0, f)) => (match h.1[d]? with
      | some (.inl (t1, n1, g)) => if t0 = t1 ∧ sp.toNatClampNeg + n.toNatClampNeg ≤ n0 ∧ dp.toNatClampNeg + n.toNatClampNeg ≤ n1 then some (r, h.1.set d (ai_num t1 n1 (va_cpy f g sp.toNatClampNeg dp.toNatClampNeg n.toNatClampNeg)), h.2) else none
      | _ => none)
    | some (.inr (.inr (.inl (C0, n0, f)))) => (match h.1[d]? with
      | some (.inr (.inr (.inl (C1, n1, g)))) => if C0 = C1 ∧ sp.toNatClampNeg + n.toNatClampNeg ≤ n0 ∧ dp.toNatClampNeg + n.toNatClampNeg ≤ n1 then some (r, h.1.set d (ai_refs C1 n1 (va_cpy f g sp.toNatClampNeg dp.toNatClampNeg n.toNatClampNeg)), h.2) else none
      | _ => none)
    | _ => none)
  | _ => none
/-- the words of a call: what is below them weighs at most eight -/
def ai_wt (S : List Value) : Nat := (S.map fun v => v.category).sum
/-- the receiver of a call: none asked (0), an object of the class with that number (1), a made cell (2) -/
def ai_rcv (Z : ai_S) (r : ai_R) (v : Option Value) (h : ai_H) : Bool := match ai_nth r 2 with
  | 0 => true
  | 1 => (match v with
    | some v => (match ai_look Z h.1 v with
      | some (.inr (.inr (.inr (ci, _)))) => decide ((ci : Int) = ai_nth r 3)
      | _ => false)
    | none => false)
  | 2 => (match v with
    | some (.ref _) => true
    | _ => false)
  | _ => false
/-- the machine in a method, k its place; 'rec' does the calls -/
def ai_go (G : ai_G) (rec : Nat → List Value → ai_H → Option ai_O) (M : ai_M) : Nat → Nat → ai_L → List Value → ai_H → Option ai_O
  | 0, _, _, _, _ => none
  | n + 1, k, L, S, h => match (ai_Mc M)[k]? with
    | none => none
    | some (_, i, _, r) => match r.1 with
      | 0 => (match ai_eff G i r L S h with
        | some (t, L', S', h') => ai_go G rec M n (if t = 0 then k + 1 else t - 1) L' S' h'
        | none => none)
      | 1 => (if ai_wt (S.drop (ai_nth r 1).toNat) ≤ 8 ∧ (ai_nth r 1).toNat ≤ S.length ∧ ai_rcv G.1 r ((S.take (ai_nth r 1).toNat).reverse).head? h = true then
          (match rec (ai_nth r 0).toNat ((S.take (ai_nth r 1).toNat).reverse) h with
          | some (.inl v, h') => ai_go G rec M n (k + 1) L (v.toList ++ S.drop (ai_nth r 1).toNat) h'
          | some (.inr E, h') => (match ai_catch (ai_Mh M) k with
            | some (t, nm) => if nm = E then ai_go G rec M n t L [.float 0] h' else none
            | none => some (.inr E, h'))
          | none => none) else none)
      | 2 => if (ai_Mh M).isEmpty = true ∧ ai_wt S ≤ 8 then some (.inr r.2.2, h.1, h.2.1 + 1, h.2.2 + 6) else none
      | 3 => (match S with
        | .ref _ :: S => if ai_wt S ≤ 8 then ai_go G rec M n (k + 1) L S h else none
        | _ => none)
      | 4 => (match ai_copy S h with
        | some (S', h') => if ai_wt S' ≤ 8 then ai_go G rec M n (k + 1) L S' h' else none
        | none => none)
      | 5 => (match S with
        | [.int x] => (match ai_Mr M with
          | some ty => if narrow ty (.int x) = .int x then some (.inl (some (.int x)), h) else none
          | none => none)
        | _ => none)
      | 6 => (match S with
        | [v] => if (ai_nul v).isSome then some (.inl (some v), h) else none
        | _ => none)
      | 7 => (match S with
        | [] => some (.inl none, h)
        | _ => none)
      | _ => none
/-- arguments of one word each, no more than there are locals -/
def ai_argok (args : List Value) (n : Nat) : Bool := decide (args.length ≤ n) && args.all (fun v => decide (v.category = 1))
/-- a call of the mi-th method, at most d deep, no more than F steps in each -/
def ai_run (P : Nat → Option ai_M) (G : ai_G) (F : Nat) : Nat → Nat → List Value → ai_H → Option ai_O
  | 0, _, _, _ => none
  | d + 1, mi, args, h => match P mi with
    | some M => if ai_argok args (ai_Ml M) = true then ai_go G (ai_run P G F d) M F 0 (args.map some ++ List.replicate (ai_Ml M - args.length) none) [] h else none
    | none => none
end
section
/-! WHAT THE SMALL MACHINE'S STATE IS IN THE LARGE ONE. sa: where the constant objects lie; ad: where the made cells lie. -/
def ai_v (sa : Nat → Nat) (ad : List Nat) (v V : Value) : Prop := match v with
  | .int x => V = .int x
  | .long x => V = .long x
  | .null => V = .null
  | .ref i => ∃ a, ad[i]? = some a ∧ V = .ref a
  | .retAddr k => V = .ref (sa k)
  | .float _ => V = .null ∨ ∃ a, V = .ref a
  | .double _ => False
def ai_vs (sa : Nat → Nat) (ad : List Nat) : List Value → List Value → Prop
  | [], [] => True
  | v :: S, V :: T => ai_v sa ad v V ∧ ai_vs sa ad S T
  | _, _ => False
theorem ai_v_cat {sa : Nat → Nat} {ad : List Nat} {v V : Value} (h : ai_v sa ad v V) : V.category = v.category := by
  cases v with
  | int x => rw [show V = .int x from h]
  | long x => rw [show V = .long x from h]
  | null => rw [show V = .null from h]
  | ref i => obtain ⟨a, -, rfl⟩ := h; rfl
  | retAddr k => rw [show V = .ref (sa k) from h]; rfl
  | float b => rcases h with rfl | ⟨a, rfl⟩ <;> rfl
  | double b => exact h.elim
theorem ai_v_more {sa : Nat → Nat} {ad : List Nat} {v V : Value} (h : ai_v sa ad v V) (q : List Nat) : ai_v sa (ad ++ q) v V := by
  cases v with
  | ref i =>
    obtain ⟨a, h1, rfl⟩ := h
    exact ⟨a, by rw [List.getElem?_append_left (List.getElem?_eq_some_iff.mp h1).1]; exact h1, rfl⟩
  | _ => exact h
theorem ai_vs_more {sa : Nat → Nat} {ad : List Nat} (q : List Nat) : ∀ {S T : List Value}, ai_vs sa ad S T → ai_vs sa (ad ++ q) S T
  | [], [], _ => trivial
  | _ :: _, _ :: _, h => ⟨ai_v_more h.1 q, ai_vs_more q h.2⟩
theorem ai_vs_cons {sa : Nat → Nat} {ad : List Nat} {v : Value} {S T : List Value} (h : ai_vs sa ad (v :: S) T) : ∃ V T', T = V :: T' ∧ ai_v sa ad v V ∧ ai_vs sa ad S T' := by
  cases T with
  | nil => exact h.elim
  | cons V T' => exact ⟨V, T', rfl, h.1, h.2⟩
theorem ai_vs_nil {sa : Nat → Nat} {ad : List Nat} {T : List Value} (h : ai_vs sa ad [] T) : T = [] := by
  cases T with
  | nil => rfl
  | cons V T' => exact h.elim
theorem ai_vs_get {sa : Nat → Nat} {ad : List Nat} : ∀ {S T : List Value} {k : Nat} {v : Value}, ai_vs sa ad S T → S[k]? = some v → ∃ V, T[k]? = some V ∧ ai_v sa ad v V
  | [], _, k, v, _, h => by simp at h
  | w :: S, T, 0, v, h, hk => by
    obtain ⟨V, T', rfl, h1, h2⟩ := ai_vs_cons h
    simp at hk; subst hk
    exact ⟨V, rfl, h1⟩
  | w :: S, T, k + 1, v, h, hk => by
    obtain ⟨V, T', rfl, h1, h2⟩ := ai_vs_cons h
    simp only [List.getElem?_cons_succ] at hk ⊢
    exact ai_vs_get h2 hk
theorem ai_vs_len {sa : Nat → Nat} {ad : List Nat} : ∀ {S T : List Value}, ai_vs sa ad S T → T.length = S.length
  | [], T, h => by rw [ai_vs_nil h]
  | w :: S, T, h => by
    obtain ⟨V, T', rfl, h1, h2⟩ := ai_vs_cons h
    simp [ai_vs_len h2]
theorem ai_vs_set {sa : Nat → Nat} {ad : List Nat} {v V : Value} (hv : ai_v sa ad v V) : ∀ {S T : List Value} (k : Nat), ai_vs sa ad S T → ai_vs sa ad (S.set k v) (T.set k V)
  | [], T, k, h => by rw [ai_vs_nil h]; trivial
  | w :: S, T, 0, h => by
    obtain ⟨W', T', rfl, h1, h2⟩ := ai_vs_cons h
    exact ⟨hv, h2⟩
  | w :: S, T, k + 1, h => by
    obtain ⟨W', T', rfl, h1, h2⟩ := ai_vs_cons h
    exact ⟨h1, ai_vs_set hv k h2⟩
theorem ai_vs_wt {sa : Nat → Nat} {ad : List Nat} : ∀ {S T : List Value}, ai_vs sa ad S T → ai_wt T = ai_wt S
  | [], T, h => by rw [ai_vs_nil h]
  | w :: S, T, h => by
    obtain ⟨V, T', rfl, h1, h2⟩ := ai_vs_cons h
    have := ai_vs_wt h2
    simp only [ai_wt, List.map_cons, List.sum_cons] at this ⊢
    rw [this, ai_v_cat h1]
theorem ai_vs_app {sa : Nat → Nat} {ad : List Nat} : ∀ {S T S' T' : List Value}, ai_vs sa ad S T → ai_vs sa ad S' T' → ai_vs sa ad (S ++ S') (T ++ T')
  | [], T, S', T', h, h' => by rw [ai_vs_nil h]; exact h'
  | w :: S, T, S', T', h, h' => by
    obtain ⟨V, T2, rfl, h1, h2⟩ := ai_vs_cons h
    exact ⟨h1, ai_vs_app h2 h'⟩
theorem ai_vs_split {sa : Nat → Nat} {ad : List Nat} : ∀ (n : Nat) {S T : List Value}, ai_vs sa ad S T → ai_vs sa ad (S.take n) (T.take n) ∧ ai_vs sa ad (S.drop n) (T.drop n)
  | 0, S, T, h => ⟨by simp only [List.take_zero]; trivial, h⟩
  | n + 1, [], T, h => by rw [ai_vs_nil h]; exact ⟨trivial, trivial⟩
  | n + 1, w :: S, T, h => by
    obtain ⟨V, T2, rfl, h1, h2⟩ := ai_vs_cons h
    obtain ⟨q1, q2⟩ := ai_vs_split n h2
    exact ⟨⟨h1, q1⟩, q2⟩
theorem ai_vs_rev {sa : Nat → Nat} {ad : List Nat} : ∀ {S T : List Value}, ai_vs sa ad S T → ai_vs sa ad S.reverse T.reverse
  | [], T, h => by rw [ai_vs_nil h]; trivial
  | w :: S, T, h => by
    obtain ⟨V, T2, rfl, h1, h2⟩ := ai_vs_cons h
    rw [List.reverse_cons, List.reverse_cons]
    exact ai_vs_app (ai_vs_rev h2) ⟨h1, trivial⟩
/-- the locals: those that the small machine knows are held; none is a long -/
def ai_l (sa : Nat → Nat) (ad : List Nat) (L : ai_L) (n : Nat) (ls : Array Slot) : Prop :=
  L.length = n ∧ ∃ lv : List (Nat × Value), lv_has ls n lv ∧ (∀ q ∈ lv, q.2.category = 1) ∧ ∀ i v, L[i]? = some (some v) → ∃ V, ai_v sa ad v V ∧ (i, V) ∈ lv
theorem ai_l_more {sa : Nat → Nat} {ad : List Nat} {L : ai_L} {n : Nat} {ls : Array Slot} (h : ai_l sa ad L n ls) (q : List Nat) : ai_l sa (ad ++ q) L n ls := by
  obtain ⟨h0, lv, h1, h2, h3⟩ := h
  refine ⟨h0, lv, h1, h2, fun i v hi => ?_⟩
  obtain ⟨V, g1, g2⟩ := h3 i v hi
  exact ⟨V, ai_v_more g1 q, g2⟩
theorem ai_l_at {sa : Nat → Nat} {ad : List Nat} {L : ai_L} {n : Nat} {ls : Array Slot} (h : ai_l sa ad L n ls) {i : Nat} {v : Value} (hi : L[i]? = some (some v)) : ∃ V, ai_v sa ad v V ∧ ls[i]? = some (.val V) := by
  obtain ⟨h0, lv, h1, h2, h3⟩ := h
  obtain ⟨V, g1, g2⟩ := h3 i v hi
  exact ⟨V, g1, h1.2.2 _ g2⟩
/-- behind a store -/
theorem ai_l_set {sa : Nat → Nat} {ad : List Nat} {L : ai_L} {n i : Nat} {v V : Value} {ls' : Array Slot} {lv : List (Nat × Value)} (h0 : L.length = n) (h2 : ∀ q ∈ lv, q.2.category = 1) (h3 : ∀ i v, L[i]? = some (some v) → ∃ V, ai_v sa ad v V ∧ (i, V) ∈ lv) (hi : i < n) (hv : ai_v sa ad v V) (hc : v.category = 1)
    (h' : lv_has ls' n ((i, V) :: lv.filter (fun q => !(q.1 == i) && !(q.1 + 1 == i && q.2.category == 2)))) : ai_l sa ad (L.set i (some v)) n ls' := by
  refine ⟨by simp [h0], _, h', ?_, fun j w hj => ?_⟩
  · intro q hq
    rcases List.mem_cons.mp hq with rfl | hq
    · rw [ai_v_cat hv]; exact hc
    · exact h2 q (List.mem_filter.mp hq).1
  · by_cases hji : j = i
    · subst hji
      rw [List.getElem?_set_self (by omega)] at hj
      cases hj
      exact ⟨V, hv, List.mem_cons_self⟩
    · rw [List.getElem?_set_ne (fun z => hji z.symm)] at hj
      obtain ⟨W', g1, g2⟩ := h3 j w hj
      refine ⟨W', g1, List.mem_cons_of_mem _ (List.mem_filter.mpr ⟨g2, ?_⟩)⟩
      have := h2 _ g2
      simp [hji, this]
end
section
/-- the types of the number arrays of the small machine -/
def ai_ty (ty : FieldType) : Prop := ty = .int ∨ ty = .byte ∨ ty = .short ∨ ty = .char
/-- a made cell -/
def ai_c (Z : ai_S) (cn : Nat → String) (sa : Nat → Nat) (ad : List Nat) (tys : List (ClassId × FieldType)) (x : ai_C) (E : va_E) : Prop := match x with
  | .inl (ty, n, f) => ai_ty ty ∧ (∀ j, fits ty (.int (f j)) = true) ∧ ∃ (cA : ClassId) (t0 : Nat), E = .inl (cA, n, .inl f) ∧ tys[t0]? = some (cA, ty)
  | .inr (.inl (n, f)) => ∃ (cA : ClassId) (t0 : Nat), E = .inl (cA, n, .inr (.inl f)) ∧ tys[t0]? = some (cA, .long)
  | .inr (.inr (.inl (C, n, g))) => ∃ (cA : ClassId) (t0 : Nat) (f : Nat → Option Nat), E = .inl (cA, n, .inr (.inr (.inr (.inr f)))) ∧ tys[t0]? = some (cA, .object C) ∧ ∀ j, (g j = .null ∧ f j = none) ∨ ∃ k ci fs, g j = .retAddr k ∧ f j = some (sa k) ∧ Z k = some (ai_obj ci fs) ∧ cn ci = C
  | .inr (.inr (.inr (ci, fs))) => ∃ vs, E = .inr (ci, vs) ∧ ai_vs sa ad fs vs
theorem ai_c_more {Z : ai_S} {cn : Nat → String} {sa : Nat → Nat} {ad : List Nat} {tys : List (ClassId × FieldType)} {x : ai_C} {E : va_E} (h : ai_c Z cn sa ad tys x E) (q : List Nat) (t : List (ClassId × FieldType)) : ai_c Z cn sa (ad ++ q) (tys ++ t) x E := by
  have up : ∀ {t0 : Nat} {y : ClassId × FieldType}, tys[t0]? = some y → (tys ++ t)[t0]? = some y := fun hy => by
    rw [List.getElem?_append_left (List.getElem?_eq_some_iff.mp hy).1]; exact hy
  match x, h with
  | .inl (ty, n, f), h =>
    obtain ⟨h1, h2, cA, t0, h3, h4⟩ := h
    exact ⟨h1, h2, cA, t0, h3, up h4⟩
  | .inr (.inl (n, f)), h =>
    obtain ⟨cA, t0, h3, h4⟩ := h
    exact ⟨cA, t0, h3, up h4⟩
  | .inr (.inr (.inl (C, n, g))), h =>
    obtain ⟨cA, t0, f, h3, h4, h5⟩ := h
    exact ⟨cA, t0, f, h3, up h4, h5⟩
  | .inr (.inr (.inr (ci, fs))), h =>
    obtain ⟨vs, h3, h4⟩ := h
    exact ⟨vs, h3, ai_vs_more q h4⟩
/-- the made cells and where they lie -/
def ai_w (Z : ai_S) (cn : Nat → String) (sa : Nat → Nat) (ad : List Nat) (tys : List (ClassId × FieldType)) (h : List ai_C) (ws : va_W) : Prop :=
  ws.length = h.length ∧ ad.length = h.length ∧ ∀ (i : Nat) (x : ai_C), h[i]? = some x → ∃ (a : Nat) (E : va_E), ad[i]? = some a ∧ ws[i]? = some (a, E) ∧ ai_c Z cn sa ad tys x E
theorem ai_w_at {Z : ai_S} {cn : Nat → String} {sa : Nat → Nat} {ad : List Nat} {tys : List (ClassId × FieldType)} {h : List ai_C} {ws : va_W} (hw : ai_w Z cn sa ad tys h ws) {i : Nat} {x : ai_C} (hi : h[i]? = some x) {V : Value} (hV : ai_v sa ad (.ref i) V) : ∃ (a : Nat) (E : va_E), V = .ref a ∧ ws[i]? = some (a, E) ∧ ai_c Z cn sa ad tys x E := by
  obtain ⟨a, E, h1, h2, h3⟩ := hw.2.2 i x hi
  obtain ⟨a', h4, rfl⟩ := hV
  rw [h1] at h4
  cases h4
  exact ⟨a, E, rfl, h2, h3⟩
theorem ai_w_set {Z : ai_S} {cn : Nat → String} {sa : Nat → Nat} {ad : List Nat} {tys : List (ClassId × FieldType)} {h : List ai_C} {ws : va_W} (hw : ai_w Z cn sa ad tys h ws) {i a : Nat} {x : ai_C} {E E0 : va_E} (h0 : ws[i]? = some (a, E0)) (hc : ai_c Z cn sa ad tys x E) : ai_w Z cn sa ad tys (h.set i x) (ws.set i (a, E)) := by
  obtain ⟨w1, w2, w3⟩ := hw
  refine ⟨by simp [w1], by simp [w2], fun j y hj => ?_⟩
  have hiw : i < ws.length := (List.getElem?_eq_some_iff.mp h0).1
  by_cases hji : j = i
  · subst hji
    rw [List.getElem?_set_self (by omega)] at hj
    cases hj
    have hx : h[j]? = some h[j] := List.getElem?_eq_getElem (by omega)
    obtain ⟨a', E', g1, g2, g3⟩ := w3 j _ hx
    rw [h0] at g2
    cases g2
    exact ⟨a, E, g1, List.getElem?_set_self hiw, hc⟩
  · rw [List.getElem?_set_ne (fun z => hji z.symm)] at hj
    obtain ⟨a', E', g1, g2, g3⟩ := w3 j y hj
    exact ⟨a', E', g1, by rw [List.getElem?_set_ne (fun z => hji z.symm)]; exact g2, g3⟩
theorem ai_w_push {Z : ai_S} {cn : Nat → String} {sa : Nat → Nat} {ad : List Nat} {tys t : List (ClassId × FieldType)} {h : List ai_C} {ws : va_W} (hw : ai_w Z cn sa ad tys h ws) {a : Nat} {x : ai_C} {E : va_E} (hc : ai_c Z cn sa (ad ++ [a]) (tys ++ t) x E) : ai_w Z cn sa (ad ++ [a]) (tys ++ t) (h ++ [x]) (ws ++ [(a, E)]) := by
  obtain ⟨w1, w2, w3⟩ := hw
  refine ⟨by simp [w1], by simp [w2], fun j y hj => ?_⟩
  by_cases hlt : j < h.length
  · rw [List.getElem?_append_left hlt] at hj
    obtain ⟨a', E', g1, g2, g3⟩ := w3 j y hj
    exact ⟨a', E', by rw [List.getElem?_append_left (by omega)]; exact g1, by rw [List.getElem?_append_left (by omega)]; exact g2, ai_c_more g3 [a] t⟩
  · have hj1 : j < (h ++ [x]).length := (List.getElem?_eq_some_iff.mp hj).1
    have hj2 : j = h.length := by simp at hj1; omega
    subst hj2
    rw [List.getElem?_append_right (Nat.le_refl _)] at hj
    simp at hj
    subst hj
    exact ⟨a, E, by rw [List.getElem?_append_right (by omega), w2]; simp, by rw [List.getElem?_append_right (by omega), w1]; simp, hc⟩
theorem ai_v_new {sa : Nat → Nat} {ad : List Nat} {a n : Nat} (h : ad.length = n) : ai_v sa (ad ++ [a]) (.ref n) (.ref a) := by
  refine ⟨a, ?_, rfl⟩
  rw [List.getElem?_append_right (by omega), h]
  simp
end
section
section AIR
variable {p : Program} {l : Launch} {e : Env} {R : Room} {s : State} {m : MethodId} {args : Array Value} {below : List Frame} {meth : Method} {c : Code} {Q : State → Prop}
variable {Z : ai_S} {cn : Nat → String} {sa : Nat → Nat} {D : va_G} {cl : List vw_C} {A : Nat → Prop} {ad0 : List Nat} {kc ks : Nat}
/-- the cells h stand in the heap H -/
def ai_At (s : State) (Z : ai_S) (cn : Nat → String) (sa : Nat → Nat) (D : va_G) (cl : List vw_C) (A : Nat → Prop) (ad0 : List Nat) (kc ks : Nat) (h : ai_H) (ad : List Nat) (tys : List (ClassId × FieldType)) (ws : va_W) (H : Heap) (locs : List Loc) (cells slots : Nat) : Prop :=
  (∃ q, ad = ad0 ++ q) ∧ h.2.1 = kc + cells ∧ h.2.2 = ks + slots ∧ ai_w Z cn sa ad tys h.1 ws ∧ va_K D cl tys s ∧ va_P D cl ws H ∧ va_D A ws ∧ va_S A s.heap H locs
/-- from the place pc with these locals, words and cells the large machine comes to Q -/
def ai_W (p : Program) (l : Launch) (e : Env) (R : Room) (s : State) (m : MethodId) (args : Array Value) (below : List Frame) (meth : Method) (c : Code) (Q : State → Prop) (Z : ai_S) (cn : Nat → String) (sa : Nat → Nat) (D : va_G) (cl : List vw_C) (A : Nat → Prop) (ad0 : List Nat) (kc ks : Nat) (pc : Nat) (L : ai_L) (S : List Value) (h : ai_H) : Prop :=
  ∀ (ad : List Nat) (tys : List (ClassId × FieldType)) (ws : va_W) (H : Heap) (locs : List Loc) (cells slots : Nat) (ls : Array Slot) (st : List Value), ai_At s Z cn sa D cl A ad0 kc ks h ad tys ws H locs cells slots → ai_l sa ad L c.maxLocals ls → ai_vs sa ad S st → W p l e R s m args below meth c H locs cells slots Q (F0 m pc ls st)
/-- where the machine goes on -/
def ai_nx (pcs : Nat → Nat) (pc len t : Nat) : Nat := if t = 0 then pc + len else pcs (t - 1)
variable {cc : ByteArray} {pc t : Nat} {L L' : ai_L} {S S' : List Value} {h h' : ai_H} {pcs : Nat → Nat}
theorem ai_push {v V : Value} {n : Nat} (hV : ∀ ad, ai_v sa ad v V)
    (row : ∀ (H : Heap) (locs : List Loc) (cells slots : Nat) (ls : Array Slot) (st : List Value), va_S A s.heap H locs → W p l e R s m args below meth c H locs cells slots Q (F0 m (pc + n) ls (V :: st)) → W p l e R s m args below meth c H locs cells slots Q (F0 m pc ls st))
    (k : ai_W p l e R s m args below meth c Q Z cn sa D cl A ad0 kc ks (pc + n) L (v :: S) h) : ai_W p l e R s m args below meth c Q Z cn sa D cl A ad0 kc ks pc L S h := by
  intro ad tys ws H locs cells slots ls st ha hl hs
  exact row _ _ _ _ _ _ ha.2.2.2.2.2.2.2 (k ad tys ws H locs cells slots ls (V :: st) ha hl ⟨hV ad, hs⟩)
theorem ai_bin_ok {f : Int32 → Int32 → Int32} (row : ∀ (x y : Int32) (H : Heap) (locs : List Loc) (cells slots : Nat) (ls : Array Slot) (st : List Value), W p l e R s m args below meth c H locs cells slots Q (F0 m (pc + 1) ls (.int (f x y) :: st)) → W p l e R s m args below meth c H locs cells slots Q (F0 m pc ls (.int y :: .int x :: st)))
    (he : ai_bin f L S h = some (t, L', S', h')) (k : ai_W p l e R s m args below meth c Q Z cn sa D cl A ad0 kc ks (ai_nx pcs pc 1 t) L' S' h') : ai_W p l e R s m args below meth c Q Z cn sa D cl A ad0 kc ks pc L S h := by
  unfold ai_bin at he
  split at he
  · rename_i y x r
    simp only [Option.some.injEq, Prod.mk.injEq] at he
    obtain ⟨rfl, rfl, rfl, rfl⟩ := he
    intro ad tys ws H locs cells slots ls st ha hl hs
    obtain ⟨V, T, rfl, hv, hs⟩ := ai_vs_cons hs
    obtain ⟨V2, T, rfl, hv2, hs⟩ := ai_vs_cons hs
    rw [show V = .int y from hv, show V2 = .int x from hv2]
    exact row _ _ _ _ _ _ _ _ (k ad tys ws H locs cells slots ls (.int (f x y) :: T) ha hl ⟨rfl, hs⟩)
  · cases he
theorem ai_divs_ok {f : Int32 → Int32 → Int32} (row : ∀ (x y : Int32) (H : Heap) (locs : List Loc) (cells slots : Nat) (ls : Array Slot) (st : List Value), ¬ y = 0 → W p l e R s m args below meth c H locs cells slots Q (F0 m (pc + 1) ls (.int (f x y) :: st)) → W p l e R s m args below meth c H locs cells slots Q (F0 m pc ls (.int y :: .int x :: st)))
    (he : ai_divs f L S h = some (t, L', S', h')) (k : ai_W p l e R s m args below meth c Q Z cn sa D cl A ad0 kc ks (ai_nx pcs pc 1 t) L' S' h') : ai_W p l e R s m args below meth c Q Z cn sa D cl A ad0 kc ks pc L S h := by
  unfold ai_divs at he
  split at he
  · rename_i y x r
    split at he
    · cases he
    · rename_i hy
      simp only [Option.some.injEq, Prod.mk.injEq] at he
      obtain ⟨rfl, rfl, rfl, rfl⟩ := he
      intro ad tys ws H locs cells slots ls st ha hl hs
      obtain ⟨V, T, rfl, hv, hs⟩ := ai_vs_cons hs
      obtain ⟨V2, T, rfl, hv2, hs⟩ := ai_vs_cons hs
      rw [show V = .int y from hv, show V2 = .int x from hv2]
      exact row _ _ _ _ _ _ _ _ hy (k ad tys ws H locs cells slots ls (.int (f x y) :: T) ha hl ⟨rfl, hs⟩)
  · cases he
theorem ai_un_ok {f : Int32 → Value} (hf : ∀ ad x, ai_v sa ad (f x) (f x)) (row : ∀ (x : Int32) (H : Heap) (locs : List Loc) (cells slots : Nat) (ls : Array Slot) (st : List Value), W p l e R s m args below meth c H locs cells slots Q (F0 m (pc + 1) ls (f x :: st)) → W p l e R s m args below meth c H locs cells slots Q (F0 m pc ls (.int x :: st)))
    (he : ai_un f L S h = some (t, L', S', h')) (k : ai_W p l e R s m args below meth c Q Z cn sa D cl A ad0 kc ks (ai_nx pcs pc 1 t) L' S' h') : ai_W p l e R s m args below meth c Q Z cn sa D cl A ad0 kc ks pc L S h := by
  unfold ai_un at he
  split at he
  · rename_i x r
    simp only [Option.some.injEq, Prod.mk.injEq] at he
    obtain ⟨rfl, rfl, rfl, rfl⟩ := he
    intro ad tys ws H locs cells slots ls st ha hl hs
    obtain ⟨V, T, rfl, hv, hs⟩ := ai_vs_cons hs
    rw [show V = .int x from hv]
    exact row _ _ _ _ _ _ _ (k ad tys ws H locs cells slots ls (f x :: T) ha hl ⟨hf ad x, hs⟩)
  · cases he
theorem ai_iload_ok {i n : Nat} (row : ∀ (x : Int32) (H : Heap) (locs : List Loc) (cells slots : Nat) (ls : Array Slot) (st : List Value), ls[i]? = some (.val (.int x)) → W p l e R s m args below meth c H locs cells slots Q (F0 m (pc + n) ls (.int x :: st)) → W p l e R s m args below meth c H locs cells slots Q (F0 m pc ls st))
    (he : ai_iload i L S h = some (t, L', S', h')) (k : ai_W p l e R s m args below meth c Q Z cn sa D cl A ad0 kc ks (ai_nx pcs pc n t) L' S' h') : ai_W p l e R s m args below meth c Q Z cn sa D cl A ad0 kc ks pc L S h := by
  unfold ai_iload at he
  split at he
  · rename_i x hx0
    simp only [Option.some.injEq, Prod.mk.injEq] at he
    obtain ⟨rfl, rfl, rfl, rfl⟩ := he
    intro ad tys ws H locs cells slots ls st ha hl hs
    obtain ⟨V, hv, hV⟩ := ai_l_at hl hx0
    rw [show V = .int x from hv] at hV
    exact row _ _ _ _ _ _ _ hV (k ad tys ws H locs cells slots ls (.int x :: st) ha hl ⟨rfl, hs⟩)
  · cases he
theorem ai_isr_v {sa : Nat → Nat} {ad : List Nat} {v V : Value} (hr : ai_isr v = true) (hv : ai_v sa ad v V) : V = .null ∨ ∃ a, V = .ref a := by
  cases v with
  | ref i => obtain ⟨a, -, rfl⟩ := hv; exact Or.inr ⟨a, rfl⟩
  | null => exact Or.inl hv
  | retAddr k => exact Or.inr ⟨_, hv⟩
  | float b => exact hv
  | int x => cases hr
  | long x => cases hr
  | double x => cases hr
theorem ai_isr_cat {v : Value} (hr : ai_isr v = true) : v.category = 1 := by
  cases v <;> first | rfl | cases hr
theorem ai_aload_ok {i n : Nat} (row : ∀ (a : Nat) (H : Heap) (locs : List Loc) (cells slots : Nat) (ls : Array Slot) (st : List Value), ls[i]? = some (.val (.ref a)) → W p l e R s m args below meth c H locs cells slots Q (F0 m (pc + n) ls (.ref a :: st)) → W p l e R s m args below meth c H locs cells slots Q (F0 m pc ls st))
    (rowN : ∀ (H : Heap) (locs : List Loc) (cells slots : Nat) (ls : Array Slot) (st : List Value), ls[i]? = some (.val .null) → W p l e R s m args below meth c H locs cells slots Q (F0 m (pc + n) ls (.null :: st)) → W p l e R s m args below meth c H locs cells slots Q (F0 m pc ls st))
    (he : ai_aload i L S h = some (t, L', S', h')) (k : ai_W p l e R s m args below meth c Q Z cn sa D cl A ad0 kc ks (ai_nx pcs pc n t) L' S' h') : ai_W p l e R s m args below meth c Q Z cn sa D cl A ad0 kc ks pc L S h := by
  unfold ai_aload at he
  split at he
  · rename_i v hx0
    split at he
    · rename_i hr
      simp only [Option.some.injEq, Prod.mk.injEq] at he
      obtain ⟨rfl, rfl, rfl, rfl⟩ := he
      intro ad tys ws H locs cells slots ls st ha hl hs
      obtain ⟨V, hv, hV⟩ := ai_l_at hl hx0
      have K := k ad tys ws H locs cells slots ls (V :: st) ha hl ⟨hv, hs⟩
      rcases ai_isr_v hr hv with rfl | ⟨a, rfl⟩
      · exact rowN _ _ _ _ _ _ hV K
      · exact row _ _ _ _ _ _ _ hV K
    · cases he
  · cases he
theorem ai_istore_ok {i n : Nat} (row : ∀ (x : Int32) (H : Heap) (locs : List Loc) (cells slots : Nat) (ls : Array Slot) (lv : List (Nat × Value)) (st : List Value), lv_has ls c.maxLocals lv → i < c.maxLocals → (∀ ls' : Array Slot, lv_has ls' c.maxLocals ((i, Value.int x) :: lv.filter (fun q => !(q.1 == i) && !(q.1 + 1 == i && q.2.category == 2))) → W p l e R s m args below meth c H locs cells slots Q (F0 m (pc + n) ls' st)) → W p l e R s m args below meth c H locs cells slots Q (F0 m pc ls (.int x :: st)))
    (he : ai_istore i L S h = some (t, L', S', h')) (k : ai_W p l e R s m args below meth c Q Z cn sa D cl A ad0 kc ks (ai_nx pcs pc n t) L' S' h') : ai_W p l e R s m args below meth c Q Z cn sa D cl A ad0 kc ks pc L S h := by
  unfold ai_istore at he
  split at he
  · rename_i x r
    split at he
    · rename_i hi
      simp only [Option.some.injEq, Prod.mk.injEq] at he
      obtain ⟨rfl, rfl, rfl, rfl⟩ := he
      intro ad tys ws H locs cells slots ls st ha hl hs
      obtain ⟨V, T, rfl, hv, hs⟩ := ai_vs_cons hs
      rw [show V = .int x from hv]
      obtain ⟨h0, lv, h1, h2, h3⟩ := hl
      refine row _ _ _ _ _ _ lv _ h1 (by omega) (fun ls' hl' => ?_)
      exact k ad tys ws H locs cells slots ls' T ha (ai_l_set h0 h2 h3 (by omega) rfl rfl hl') hs
    · cases he
  · cases he
theorem ai_astore_ok {i n : Nat} (row : ∀ (a : Nat) (H : Heap) (locs : List Loc) (cells slots : Nat) (ls : Array Slot) (lv : List (Nat × Value)) (st : List Value), lv_has ls c.maxLocals lv → i < c.maxLocals → (∀ ls' : Array Slot, lv_has ls' c.maxLocals ((i, Value.ref a) :: lv.filter (fun q => !(q.1 == i) && !(q.1 + 1 == i && q.2.category == 2))) → W p l e R s m args below meth c H locs cells slots Q (F0 m (pc + n) ls' st)) → W p l e R s m args below meth c H locs cells slots Q (F0 m pc ls (.ref a :: st)))
    (rowN : ∀ (H : Heap) (locs : List Loc) (cells slots : Nat) (ls : Array Slot) (lv : List (Nat × Value)) (st : List Value), lv_has ls c.maxLocals lv → i < c.maxLocals → (∀ ls' : Array Slot, lv_has ls' c.maxLocals ((i, Value.null) :: lv.filter (fun q => !(q.1 == i) && !(q.1 + 1 == i && q.2.category == 2))) → W p l e R s m args below meth c H locs cells slots Q (F0 m (pc + n) ls' st)) → W p l e R s m args below meth c H locs cells slots Q (F0 m pc ls (.null :: st)))
    (he : ai_astore i L S h = some (t, L', S', h')) (k : ai_W p l e R s m args below meth c Q Z cn sa D cl A ad0 kc ks (ai_nx pcs pc n t) L' S' h') : ai_W p l e R s m args below meth c Q Z cn sa D cl A ad0 kc ks pc L S h := by
  unfold ai_astore at he
  split at he
  · rename_i v r
    split at he
    · rename_i hi
      simp only [Option.some.injEq, Prod.mk.injEq] at he
      obtain ⟨rfl, rfl, rfl, rfl⟩ := he
      intro ad tys ws H locs cells slots ls st ha hl hs
      obtain ⟨V, T, rfl, hv, hs2⟩ := ai_vs_cons hs
      obtain ⟨h0, lv, h1, h2, h3⟩ := hl
      have hc := ai_isr_cat hi.1
      rcases ai_isr_v hi.1 hv with rfl | ⟨a, rfl⟩
      · refine rowN _ _ _ _ _ lv _ h1 (by omega) (fun ls' hl' => ?_)
        exact k ad tys ws H locs cells slots ls' T ha (ai_l_set h0 h2 h3 (by omega) hv hc hl') hs2
      · refine row _ _ _ _ _ _ lv _ h1 (by omega) (fun ls' hl' => ?_)
        exact k ad tys ws H locs cells slots ls' T ha (ai_l_set h0 h2 h3 (by omega) hv hc hl') hs2
    · cases he
  · cases he
theorem ai_inc_ok {i : Nat} {z : Int} (hx : p.tables.exec = Jvm.exec) (hb : c.code = cc) (hd : decode cc pc = .ok (.iinc i z, 3))
    (he : ai_inc i z L S h = some (t, L', S', h')) (k : ai_W p l e R s m args below meth c Q Z cn sa D cl A ad0 kc ks (ai_nx pcs pc 3 t) L' S' h') : ai_W p l e R s m args below meth c Q Z cn sa D cl A ad0 kc ks pc L S h := by
  unfold ai_inc at he
  split at he
  · rename_i x hx0
    simp only [Option.some.injEq, Prod.mk.injEq] at he
    obtain ⟨rfl, rfl, rfl, rfl⟩ := he
    intro ad tys ws H locs cells slots ls st ha hl hs
    obtain ⟨h0, lv, h1, h2, h3⟩ := hl
    obtain ⟨V, hv, hV⟩ := h3 i _ hx0
    rw [show V = .int x from hv] at hV
    obtain ⟨j, hj⟩ := List.getElem?_of_mem hV
    have hi : i < c.maxLocals := by
      have := (List.getElem?_eq_some_iff.mp hx0).1
      omega
    refine lv_iinc hx hb hd h1 hj rfl hi rfl (fun ls' hl' => ?_)
    exact k ad tys ws H locs cells slots ls' st ha (ai_l_set h0 h2 h3 hi rfl rfl hl') hs
  · cases he
theorem ai_dup_ok {f : Value → List Value → Option (List Value)} (row : ∀ (v : Value) (r r' : List Value) (V : Value) (T : List Value) (ad : List Nat) (H : Heap) (locs : List Loc) (cells slots : Nat) (ls : Array Slot), v.category = 1 → f v r = some r' → ai_v sa ad v V → ai_vs sa ad r T → ∃ T', ai_vs sa ad r' T' ∧ (W p l e R s m args below meth c H locs cells slots Q (F0 m (pc + 1) ls T') → W p l e R s m args below meth c H locs cells slots Q (F0 m pc ls (V :: T))))
    (he : ai_dup f L S h = some (t, L', S', h')) (k : ai_W p l e R s m args below meth c Q Z cn sa D cl A ad0 kc ks (ai_nx pcs pc 1 t) L' S' h') : ai_W p l e R s m args below meth c Q Z cn sa D cl A ad0 kc ks pc L S h := by
  unfold ai_dup at he
  split at he
  · rename_i v r
    split at he
    · rename_i hc
      split at he
      · rename_i r' hf
        simp only [Option.some.injEq, Prod.mk.injEq] at he
        obtain ⟨rfl, rfl, rfl, rfl⟩ := he
        intro ad tys ws H locs cells slots ls st ha hl hs
        obtain ⟨V, T, rfl, hv, hs⟩ := ai_vs_cons hs
        obtain ⟨T', h1, h2⟩ := row v r r' V T ad H locs cells slots ls hc hf hv hs
        exact h2 (k ad tys ws H locs cells slots ls T' ha hl h1)
      · cases he
    · cases he
  · cases he
end AIR
end
section
section AIB
variable {p : Program} {l : Launch} {e : Env} {R : Room} {s : State} {m : MethodId} {args : Array Value} {below : List Frame} {meth : Method} {c : Code} {Q : State → Prop}
variable {Z : ai_S} {cn : Nat → String} {sa : Nat → Nat} {D : va_G} {cl : List vw_C} {A : Nat → Prop} {ad0 : List Nat} {kc ks : Nat}
variable {cc : ByteArray} {pc t : Nat} {L L' : ai_L} {S S' : List Value} {h h' : ai_H} {pcs : Nat → Nat} {r : ai_R}
/-- the two roads of a branch -/
theorem ai_two {C : Prop} {b : Bool} (hb : b = true ↔ C) {T : List Value} {H : Heap} {locs : List Loc} {cells slots : Nat} {ls : Array Slot} {st : List Value}
    (row : (C → W p l e R s m args below meth c H locs cells slots Q (F0 m (pcs (ai_tgt r)) ls T)) → (¬ C → W p l e R s m args below meth c H locs cells slots Q (F0 m (pc + 3) ls T)) → W p l e R s m args below meth c H locs cells slots Q (F0 m pc ls st))
    (he : ai_jump b r L S h = some (t, L', S', h')) (k : (t, L', S', h') = (t, L, S, h) → W p l e R s m args below meth c H locs cells slots Q (F0 m (ai_nx pcs pc 3 t) ls T)) : W p l e R s m args below meth c H locs cells slots Q (F0 m pc ls st) := by
  simp only [ai_jump, Option.some.injEq, Prod.mk.injEq] at he
  obtain ⟨ht, rfl, rfl, rfl⟩ := he
  have K := k rfl
  refine row (fun hc => ?_) (fun hc => ?_)
  · rw [if_pos (hb.mpr hc)] at ht
    subst ht
    exact K
  · rw [if_neg (fun z => hc (hb.mp z))] at ht
    subst ht
    exact K
theorem ai_if_ok {cd : Jvm.ClassFile.Cond} {off : Int} (hx : p.tables.exec = Jvm.exec) (hb : c.code = cc) (hd : decode cc pc = .ok (.ifCond cd off, 3)) (ht : (pc : Int) + off = (pcs (ai_tgt r) : Int)) {x : Int32}
    (he : ai_jump (ai_cmp cd x 0) r L S h = some (t, L', S', h')) (k : ai_W p l e R s m args below meth c Q Z cn sa D cl A ad0 kc ks (ai_nx pcs pc 3 t) L' S' h') : ai_W p l e R s m args below meth c Q Z cn sa D cl A ad0 kc ks pc L (.int x :: S) h := by
  intro ad tys ws H locs cells slots ls st ha hl hs
  obtain ⟨V, T, rfl, hv, hs⟩ := ai_vs_cons hs
  rw [show V = .int x from hv]
  have K : (t, L', S', h') = (t, L, S, h) → W p l e R s m args below meth c H locs cells slots Q (F0 m (ai_nx pcs pc 3 t) ls T) := fun hq => by
    simp only [Prod.mk.injEq, true_and] at hq
    obtain ⟨rfl, rfl, rfl⟩ := hq
    exact k ad tys ws H locs cells slots ls T ha hl hs
  cases cd with
  | eq => exact ai_two (C := x = 0) (by simp [ai_cmp]) (fun a b => lv_if_eq hx hb hd ht a b) he K
  | ne => exact ai_two (C := ¬ x = 0) (by simp [ai_cmp]) (fun a b => lv_if_ne hx hb hd ht a (fun z => b (fun y => y z))) he K
  | lt => exact ai_two (C := x < 0) (by simp [ai_cmp]) (fun a b => lv_if_lt hx hb hd ht a b) he K
  | ge => exact ai_two (C := 0 ≤ x) (by simp [ai_cmp]) (fun a b => lv_if_ge hx hb hd ht a b) he K
  | gt => exact ai_two (C := 0 < x) (by simp [ai_cmp]) (fun a b => lv_if_gt hx hb hd ht a b) he K
  | le => exact ai_two (C := x ≤ 0) (by simp [ai_cmp]) (fun a b => lv_if_le hx hb hd ht a b) he K
theorem ai_icmp_ok {cd : Jvm.ClassFile.Cond} {off : Int} (hx : p.tables.exec = Jvm.exec) (hb : c.code = cc) (hd : decode cc pc = .ok (.if_icmp cd off, 3)) (ht : (pc : Int) + off = (pcs (ai_tgt r) : Int)) {x y : Int32}
    (he : ai_jump (ai_cmp cd x y) r L S h = some (t, L', S', h')) (k : ai_W p l e R s m args below meth c Q Z cn sa D cl A ad0 kc ks (ai_nx pcs pc 3 t) L' S' h') : ai_W p l e R s m args below meth c Q Z cn sa D cl A ad0 kc ks pc L (.int y :: .int x :: S) h := by
  intro ad tys ws H locs cells slots ls st ha hl hs
  obtain ⟨V, T, rfl, hv, hs⟩ := ai_vs_cons hs
  obtain ⟨V2, T, rfl, hv2, hs⟩ := ai_vs_cons hs
  rw [show V = .int y from hv, show V2 = .int x from hv2]
  have K : (t, L', S', h') = (t, L, S, h) → W p l e R s m args below meth c H locs cells slots Q (F0 m (ai_nx pcs pc 3 t) ls T) := fun hq => by
    simp only [Prod.mk.injEq, true_and] at hq
    obtain ⟨rfl, rfl, rfl⟩ := hq
    exact k ad tys ws H locs cells slots ls T ha hl hs
  cases cd with
  | eq => exact ai_two (C := x = y) (by simp [ai_cmp]) (fun a b => lv_icmp_eq hx hb hd ht a b) he K
  | ne => exact ai_two (C := ¬ x = y) (by simp [ai_cmp]) (fun a b => lv_icmp_ne hx hb hd ht a (fun z => b (fun y => y z))) he K
  | lt => exact ai_two (C := x < y) (by simp [ai_cmp]) (fun a b => lv_icmp_lt hx hb hd ht a b) he K
  | ge => exact ai_two (C := y ≤ x) (by simp [ai_cmp]) (fun a b => lv_icmp_ge hx hb hd ht a b) he K
  | gt => exact ai_two (C := y < x) (by simp [ai_cmp]) (fun a b => lv_icmp_gt hx hb hd ht a b) he K
  | le => exact ai_two (C := x ≤ y) (by simp [ai_cmp]) (fun a b => lv_icmp_le hx hb hd ht a b) he K
theorem ai_goto_ok {off : Int} (hx : p.tables.exec = Jvm.exec) (hb : c.code = cc) (hd : decode cc pc = .ok (.goto off, 3)) (ht : (pc : Int) + off = (pcs (ai_tgt r) : Int))
    (he : ai_jump true r L S h = some (t, L', S', h')) (k : ai_W p l e R s m args below meth c Q Z cn sa D cl A ad0 kc ks (ai_nx pcs pc 3 t) L' S' h') : ai_W p l e R s m args below meth c Q Z cn sa D cl A ad0 kc ks pc L S h := by
  simp only [ai_jump, if_true, Option.some.injEq, Prod.mk.injEq] at he
  obtain ⟨rfl, rfl, rfl, rfl⟩ := he
  intro ad tys ws H locs cells slots ls st ha hl hs
  exact lv_goto hx hb hd ht (k ad tys ws H locs cells slots ls st ha hl hs)
theorem ai_lcmp_ok (hx : p.tables.exec = Jvm.exec) (hb : c.code = cc) (hd : decode cc pc = .ok (.lcmp, 1)) {x y : Int64} (k : ai_W p l e R s m args below meth c Q Z cn sa D cl A ad0 kc ks (pc + 1) L (.int (lg_cmp x y) :: S) h) : ai_W p l e R s m args below meth c Q Z cn sa D cl A ad0 kc ks pc L (.long y :: .long x :: S) h := by
  intro ad tys ws H locs cells slots ls st ha hl hs
  obtain ⟨V, T, rfl, hv, hs⟩ := ai_vs_cons hs
  obtain ⟨V2, T, rfl, hv2, hs⟩ := ai_vs_cons hs
  rw [show V = .long y from hv, show V2 = .long x from hv2]
  exact W.lcmp hx hb hd (k ad tys ws H locs cells slots ls (.int (lg_cmp x y) :: T) ha hl ⟨rfl, hs⟩)
theorem ai_tsw_ok {dflt lo hi : Int} {offs : Array Int} {len : Nat} (hx : p.tables.exec = Jvm.exec) (hb : c.code = cc) (hd : decode cc pc = .ok (.tableswitch dflt lo hi offs, len)) (hdf : (pc : Int) + dflt = (pcs (ai_tgt r) : Int))
    (hof : ∀ j : Nat, (j : Int) ≤ hi - lo → ∃ off, offs[j]? = some off ∧ (pc : Int) + off = (pcs (ai_nth r (j + 1)).toNat : Int)) {x : Int32}
    (he : ai_sw (if x.toInt < lo ∨ hi < x.toInt then ai_tgt r else (ai_nth r ((x.toInt - lo).toNat + 1)).toNat) L S h = some (t, L', S', h')) (k : ai_W p l e R s m args below meth c Q Z cn sa D cl A ad0 kc ks (ai_nx pcs pc len t) L' S' h') : ai_W p l e R s m args below meth c Q Z cn sa D cl A ad0 kc ks pc L (.int x :: S) h := by
  simp only [ai_sw, Option.some.injEq, Prod.mk.injEq] at he
  obtain ⟨rfl, rfl, rfl, rfl⟩ := he
  intro ad tys ws H locs cells slots ls st ha hl hs
  obtain ⟨V, T, rfl, hv, hs⟩ := ai_vs_cons hs
  rw [show V = .int x from hv]
  have K := k ad tys ws H locs cells slots ls T ha hl hs
  by_cases hc : x.toInt < lo ∨ hi < x.toInt
  · rw [if_pos hc] at K
    exact lv_tableOut hx hb hd hc hdf K
  · rw [if_neg hc] at K
    have h1 : ¬ x.toInt < lo := fun z => hc (Or.inl z)
    have h2 : ¬ hi < x.toInt := fun z => hc (Or.inr z)
    obtain ⟨off, g1, g2⟩ := hof (x.toInt - lo).toNat (by omega)
    exact lv_tableIn hx hb hd h1 h2 g1 g2 K
/-- comparing references -/
theorem ai_same_v {ad : List Nat} {ws : va_W} {tys : List (ClassId × FieldType)} (hsa : ∀ i j, (∃ x, Z i = some x) → (∃ x, Z j = some x) → sa i = sa j → i = j) {hp : List ai_C} (hw : ai_w Z cn sa ad tys hp ws) (hD : va_D A ws) {x y X Y : Value} {b : Bool}
    (hz : ∀ k, (x = .retAddr k ∨ y = .retAddr k) → ∃ w, Z k = some w) (hb : ai_same x y = some b) (hX : ai_v sa ad x X) (hY : ai_v sa ad y Y) : ∃ rx ry : Option Nat, X = va_rf rx ∧ Y = va_rf ry ∧ (b = true ↔ rx = ry) := by
  have inj : ∀ i j a : Nat, ad[i]? = some a → ad[j]? = some a → i = j := by
    intro i j a hi hj
    have li : i < hp.length := by rw [← hw.2.1]; exact (List.getElem?_eq_some_iff.mp hi).1
    have lj : j < hp.length := by rw [← hw.2.1]; exact (List.getElem?_eq_some_iff.mp hj).1
    obtain ⟨a1, E1, g1, g2, -⟩ := hw.2.2 i _ (List.getElem?_eq_getElem li)
    obtain ⟨a2, E2, g3, g4, -⟩ := hw.2.2 j _ (List.getElem?_eq_getElem lj)
    rw [hi] at g1; cases g1
    rw [hj] at g3; cases g3
    exact hD.1 i j _ _ g2 g4 rfl
  cases x with
  | null =>
    have hX : X = .null := hX
    cases y with
    | null => refine ⟨none, none, hX, hY, ?_⟩; simp [ai_same] at hb; simp [← hb]
    | ref j => obtain ⟨a, -, rfl⟩ := hY; refine ⟨none, some a, hX, rfl, ?_⟩; simp [ai_same] at hb; simp [← hb]
    | retAddr j => refine ⟨none, some (sa j), hX, hY, ?_⟩; simp [ai_same] at hb; simp [← hb]
    | _ => simp [ai_same] at hb
  | ref i =>
    obtain ⟨a, hi, rfl⟩ := hX
    cases y with
    | null => refine ⟨some a, none, rfl, hY, ?_⟩; simp [ai_same] at hb; simp [← hb]
    | ref j =>
      obtain ⟨a2, hj, rfl⟩ := hY
      refine ⟨some a, some a2, rfl, rfl, ?_⟩
      simp only [ai_same, Option.some.injEq] at hb
      rw [← hb, decide_eq_true_eq]
      constructor
      · intro e; subst e; rw [hi] at hj; exact hj
      · intro e; cases e; exact inj i j a hi hj
    | _ => simp [ai_same] at hb
  | retAddr i =>
    have hX : X = .ref (sa i) := hX
    cases y with
    | null => refine ⟨some (sa i), none, hX, hY, ?_⟩; simp [ai_same] at hb; simp [← hb]
    | retAddr j =>
      refine ⟨some (sa i), some (sa j), hX, hY, ?_⟩
      simp only [ai_same, Option.some.injEq] at hb
      rw [← hb, decide_eq_true_eq]
      constructor
      · intro e; rw [e]
      · intro e; exact hsa i j (hz i (Or.inl rfl)) (hz j (Or.inr rfl)) (Option.some.inj e)
    | _ => simp [ai_same] at hb
  | _ => simp [ai_same] at hb
end AIB
end
section
/-! THE CONSTANT OBJECTS: what is known of the cell at a. zc: the class of a constant object by its number, its fields. -/
def ai_zc (zc : Nat → String × u_T) (sa : Nat → Nat) (x : ai_C) (a : Nat) (A : Nat → Prop) (U : State) (H : Heap) : Prop := match x with
  | .inl (ty, n, f) => va_T ty a n (fun j => .int (f j)) A U H
  | .inr (.inl _) => False
  | .inr (.inr (.inl (C, n, g))) => ∃ f : Nat → Value, va_T (.object C) a n f A U H ∧ ∀ j, j < n → ai_v sa [] (g j) (f j)
  | .inr (.inr (.inr (ci, fs))) => va_O (zc ci).1 a A U H ∧ ∀ (k : Nat) (v : Value), fs[k]? = some v → ∃ V, ai_v sa [] v V ∧ va_OF ((zc ci).2 k).1 ((zc ci).2 k).2.1 ((zc ci).2 k).2.2.1 V a A U H
theorem ai_zc_moved {zc : Nat → String × u_T} {sa : Nat → Nat} {x : ai_C} {a : Nat} {A : Nat → Prop} {u U : State} {H : Heap} (hvm : u.vm.Alike U.vm) (h : ai_zc zc sa x a A u H) : ai_zc zc sa x a A U H := by
  match x, h with
  | .inl (ty, n, f), h => exact va_T.moved hvm h
  | .inr (.inr (.inl (C, n, g))), h =>
    obtain ⟨f, h1, h2⟩ := h
    exact ⟨f, va_T.moved hvm h1, h2⟩
  | .inr (.inr (.inr (ci, fs))), h =>
    refine ⟨va_O.moved hvm h.1, fun k v hk => ?_⟩
    obtain ⟨V, h1, h2⟩ := h.2 k v hk
    exact ⟨V, h1, va_OF.moved hvm h2⟩
theorem ai_zc_kept {zc : Nat → String × u_T} {sa : Nat → Nat} {x : ai_C} {a : Nat} {A : Nat → Prop} {U : State} {H H1 : Heap} (h : ai_zc zc sa x a A U H) (hq : ∀ a : Nat, a < H.size → ¬ A a → H1[a]? = H[a]?) : ai_zc zc sa x a A U H1 := by
  match x, h with
  | .inl (ty, n, f), h => exact va_T.kept h hq
  | .inr (.inr (.inl (C, n, g))), h =>
    obtain ⟨f, h1, h2⟩ := h
    exact ⟨f, va_T.kept h1 hq, h2⟩
  | .inr (.inr (.inr (ci, fs))), h =>
    refine ⟨va_O.kept h.1 hq, fun k v hk => ?_⟩
    obtain ⟨V, h1, h2⟩ := h.2 k v hk
    exact ⟨V, h1, va_OF.kept h2 hq⟩
theorem ai_zc_narrow {zc : Nat → String × u_T} {sa : Nat → Nat} {x : ai_C} {a : Nat} {A B : Nat → Prop} {U : State} {H : Heap} (h : ai_zc zc sa x a A U H) (hAB : ∀ q, B q → A q) : ai_zc zc sa x a B U H := by
  match x, h with
  | .inl (ty, n, f), h => exact va_T.narrow h hAB
  | .inr (.inr (.inl (C, n, g))), h =>
    obtain ⟨f, h1, h2⟩ := h
    exact ⟨f, va_T.narrow h1 hAB, h2⟩
  | .inr (.inr (.inr (ci, fs))), h =>
    refine ⟨va_O.narrow h.1 hAB, fun k v hk => ?_⟩
    obtain ⟨V, h1, h2⟩ := h.2 k v hk
    exact ⟨V, h1, va_OF.narrow h2 hAB⟩
section AIG
variable {p : Program} {l : Launch} {e : Env} {R : Room} {s : State} {m : MethodId} {args : Array Value} {below : List Frame} {meth : Method} {c : Code} {Q : State → Prop}
variable {Z : ai_S} {cn : Nat → String} {sa : Nat → Nat} {D : va_G} {cl : List vw_C} {A : Nat → Prop} {ad0 : List Nat} {kc ks : Nat}
variable {cc : ByteArray} {pc t : Nat} {L L' : ai_L} {S S' : List Value} {h h' : ai_H} {pcs : Nat → Nat} {zc : Nat → String × u_T}
theorem ai_v_nil {ad : List Nat} {v V : Value} (h : ai_v sa [] v V) : ai_v sa ad v V := by
  have := ai_v_more h ad
  simpa using this
/-- a number out of an array -/
theorem ai_ald_ok (hZ : ∀ k x, Z k = some x → ai_zc zc sa x (sa k) A s s.heap) {ty : FieldType}
    (row : ∀ (D : va_G) (cl : List vw_C) (tys : List (ClassId × FieldType)) (ws : va_W) (q0 t0 a : Nat) (cA : ClassId) (n : Nat) (f : Nat → Int32) (i : Int32) (H : Heap) (locs : List Loc) (cells slots : Nat) (ls : Array Slot) (st : List Value), va_K D cl tys s → va_P D cl ws H → ws[q0]? = some (a, .inl (cA, n, .inl f)) → tys[t0]? = some (cA, ty) → vp_in i n → W p l e R s m args below meth c H locs cells slots Q (F0 m (pc + 1) ls (.int (f i.toNatClampNeg) :: st)) → W p l e R s m args below meth c H locs cells slots Q (F0 m pc ls (.int i :: .ref a :: st)))
    (rowT : ∀ (a N : Nat) (f : Nat → Value) (i : Int32) (H : Heap) (locs : List Loc) (cells slots : Nat) (ls : Array Slot) (st : List Value), va_T ty a N f A s s.heap → va_S A s.heap H locs → vp_in i N → W p l e R s m args below meth c H locs cells slots Q (F0 m (pc + 1) ls (f i.toNatClampNeg :: st)) → W p l e R s m args below meth c H locs cells slots Q (F0 m pc ls (.int i :: .ref a :: st)))
    (he : ai_ald Z ty L S h = some (t, L', S', h')) (k : ai_W p l e R s m args below meth c Q Z cn sa D cl A ad0 kc ks (ai_nx pcs pc 1 t) L' S' h') : ai_W p l e R s m args below meth c Q Z cn sa D cl A ad0 kc ks pc L S h := by
  unfold ai_ald at he
  split at he
  · rename_i i v r
    split at he
    · rename_i ty' n f hlook
      split at he
      · rename_i hc
        obtain ⟨rfl, hi0, hin⟩ := hc
        simp only [Option.some.injEq, Prod.mk.injEq] at he
        obtain ⟨rfl, rfl, rfl, rfl⟩ := he
        intro ad tys ws H locs cells slots ls st ha hl hs
        obtain ⟨V, T, rfl, hv, hs⟩ := ai_vs_cons hs
        obtain ⟨V2, T, rfl, hv2, hs⟩ := ai_vs_cons hs
        rw [show V = .int i from hv]
        have K := k ad tys ws H locs cells slots ls (.int (f i.toNatClampNeg) :: T) ha hl ⟨rfl, hs⟩
        obtain ⟨-, -, -, hw, hK, hP, hD, hS⟩ := ha
        have hvp : vp_in i n := fun z => z.elim hi0 (fun z => by omega)
        cases v with
        | ref j =>
          obtain ⟨a, E, rfl, g1, -, -, cA, t0, rfl, g2⟩ := ai_w_at hw hlook hv2
          exact row D cl tys ws j t0 a cA n f i H locs cells slots ls T hK hP g1 g2 hvp K
        | retAddr j =>
          rw [show V2 = .ref (sa j) from hv2]
          exact rowT _ n _ i H locs cells slots ls T (hZ j _ hlook) hS hvp K
        | _ => cases hlook
      · cases he
    · cases he
  · cases he
theorem ai_lald_ok (hx : p.tables.exec = Jvm.exec) (hb : c.code = cc) (hd : decode cc pc = .ok (.laload, 1)) (he : ai_lald L S h = some (t, L', S', h')) (k : ai_W p l e R s m args below meth c Q Z cn sa D cl A ad0 kc ks (ai_nx pcs pc 1 t) L' S' h') : ai_W p l e R s m args below meth c Q Z cn sa D cl A ad0 kc ks pc L S h := by
  unfold ai_lald at he
  split at he
  · rename_i i j r
    split at he
    · rename_i n f hlook
      split at he
      · rename_i hc
        obtain ⟨hi0, hin⟩ := hc
        simp only [Option.some.injEq, Prod.mk.injEq] at he
        obtain ⟨rfl, rfl, rfl, rfl⟩ := he
        intro ad tys ws H locs cells slots ls st ha hl hs
        obtain ⟨V, T, rfl, hv, hs⟩ := ai_vs_cons hs
        obtain ⟨V2, T, rfl, hv2, hs⟩ := ai_vs_cons hs
        rw [show V = .int i from hv]
        have K := k ad tys ws H locs cells slots ls (.long (f i.toNatClampNeg) :: T) ha hl ⟨rfl, hs⟩
        obtain ⟨-, -, -, hw, hK, hP, hD, hS⟩ := ha
        have hvp : vp_in i n := fun z => z.elim hi0 (fun z => by omega)
        obtain ⟨a, E, rfl, g1, cA, t0, rfl, g2⟩ := ai_w_at hw hlook hv2
        exact va_lald hx hb hK hP j t0 g1 g2 hvp hd K
      · cases he
    · cases he
  · cases he
/-- a number into an array -/
theorem ai_ast_ok {ty : FieldType} {nar : Int32 → Int32} (hnar : ∀ x, fits ty (.int (nar x)) = true)
    (row : ∀ (D : va_G) (cl : List vw_C) (tys : List (ClassId × FieldType)) (ws : va_W) (q0 t0 a : Nat) (cA : ClassId) (n : Nat) (f : Nat → Int32) (i x : Int32) (H : Heap) (locs : List Loc) (cells slots : Nat) (ls : Array Slot) (st : List Value), va_K D cl tys s → va_P D cl ws H → va_D A ws → va_S A s.heap H locs → ws[q0]? = some (a, .inl (cA, n, .inl f)) → tys[t0]? = some (cA, ty) → vp_in i n → (∀ (H1 : Heap) (locs1 : List Loc), va_P D cl (ws.set q0 (a, .inl (cA, n, .inl (upd f i.toNatClampNeg (nar x))))) H1 → va_D A (ws.set q0 (a, .inl (cA, n, .inl (upd f i.toNatClampNeg (nar x))))) → va_S A s.heap H1 locs1 → W p l e R s m args below meth c H1 locs1 cells slots Q (F0 m (pc + 1) ls st)) → W p l e R s m args below meth c H locs cells slots Q (F0 m pc ls (.int x :: .int i :: .ref a :: st)))
    (he : ai_ast ty nar L S h = some (t, L', S', h')) (k : ai_W p l e R s m args below meth c Q Z cn sa D cl A ad0 kc ks (ai_nx pcs pc 1 t) L' S' h') : ai_W p l e R s m args below meth c Q Z cn sa D cl A ad0 kc ks pc L S h := by
  unfold ai_ast at he
  split at he
  · rename_i x i j r
    split at he
    · rename_i ty' n f hlook
      split at he
      · rename_i hc
        obtain ⟨rfl, hi0, hin⟩ := hc
        simp only [Option.some.injEq, Prod.mk.injEq] at he
        obtain ⟨rfl, rfl, rfl, rfl⟩ := he
        intro ad tys ws H locs cells slots ls st ha hl hs
        obtain ⟨V, T, rfl, hv, hs⟩ := ai_vs_cons hs
        obtain ⟨V2, T, rfl, hv2, hs⟩ := ai_vs_cons hs
        obtain ⟨V3, T, rfl, hv3, hs9⟩ := ai_vs_cons hs
        rw [show V = .int x from hv, show V2 = .int i from hv2]
        obtain ⟨q1, q2, q3, hw, hK, hP, hD, hS⟩ := ha
        have hvp : vp_in i n := fun z => z.elim hi0 (fun z => by omega)
        obtain ⟨a, E, rfl, g1, g0, gf, cA, t0, rfl, g2⟩ := ai_w_at hw hlook hv3
        refine row D cl tys ws j t0 a cA n f i x H locs cells slots ls T hK hP hD hS g1 g2 hvp (fun H1 locs1 hP1 hD1 hS1 => ?_)
        refine k ad tys _ H1 locs1 cells slots ls T ⟨q1, q2, q3, ai_w_set hw g1 ?_, hK, hP1, hD1, hS1⟩ hl hs9
        refine ⟨g0, fun z => ?_, cA, t0, rfl, g2⟩
        by_cases hz : z = i.toNatClampNeg
        · subst hz; rw [pk_us]; exact hnar x
        · rw [pk_un hz]; exact gf z
      · cases he
    · cases he
  · cases he
theorem ai_last_ok (hx : p.tables.exec = Jvm.exec) (hb : c.code = cc) (hd : decode cc pc = .ok (.lastore, 1)) (he : ai_last L S h = some (t, L', S', h')) (k : ai_W p l e R s m args below meth c Q Z cn sa D cl A ad0 kc ks (ai_nx pcs pc 1 t) L' S' h') : ai_W p l e R s m args below meth c Q Z cn sa D cl A ad0 kc ks pc L S h := by
  unfold ai_last at he
  split at he
  · rename_i x i j r
    split at he
    · rename_i n f hlook
      split at he
      · rename_i hc
        obtain ⟨hi0, hin⟩ := hc
        simp only [Option.some.injEq, Prod.mk.injEq] at he
        obtain ⟨rfl, rfl, rfl, rfl⟩ := he
        intro ad tys ws H locs cells slots ls st ha hl hs
        obtain ⟨V, T, rfl, hv, hs⟩ := ai_vs_cons hs
        obtain ⟨V2, T, rfl, hv2, hs⟩ := ai_vs_cons hs
        obtain ⟨V3, T, rfl, hv3, hs9⟩ := ai_vs_cons hs
        rw [show V = .long x from hv, show V2 = .int i from hv2]
        obtain ⟨q1, q2, q3, hw, hK, hP, hD, hS⟩ := ha
        have hvp : vp_in i n := fun z => z.elim hi0 (fun z => by omega)
        obtain ⟨a, E, rfl, g1, cA, t0, rfl, g2⟩ := ai_w_at hw hlook hv3
        refine va_last hx hb hK hP hD hS j t0 g1 g2 hvp hd (fun H1 locs1 hP1 hD1 hS1 => ?_)
        exact k ad tys _ H1 locs1 cells slots ls T ⟨q1, q2, q3, ai_w_set hw g1 ⟨cA, t0, rfl, g2⟩, hK, hP1, hD1, hS1⟩ hl hs9
      · cases he
    · cases he
  · cases he
end AIG
end
section
/-- the tables speak of the classes that are made: words, types of fields, different names -/
def ai_clok (Ts : List Cond) (cl : List vw_C) (ty0 : Nat → Nat → FieldType) : Prop := ∀ (ci : Nat) (q : vw_C), cl[ci]? = some q → (∀ w ∈ u_ws q.1 q.2.1 q.2.2, w ∈ Ts) ∧ (∀ k, k < q.2.2 → parseFieldDescriptor (q.2.1 k).2.2.1 = some (ty0 ci k)) ∧ (∀ a, a < q.2.2 → ∀ b, b < q.2.2 → a ≠ b → (q.2.1 a).2.1 ≠ (q.2.1 b).2.1)
/-- the entry of the pool leads to the field, in the nest or not -/
def ai_fl (s : State) (args : Array Value) (own : String) (idx : Nat) (q : String × String × String × Bool) : Prop := (Cond.fieldLink own idx q.1 q.2.1 q.2.2.1).before args s = true ∨ ∃ host, (Cond.fieldLinkNest own idx q.1 q.2.1 q.2.2.1 host).before args s = true
/-- which values a field of that type takes -/
def ai_fit (ty : FieldType) (v : Value) : Bool := match ty with
  | .int => (match v with
    | .int _ => true
    | _ => false)
  | .object _ => ai_isr v
  | .array _ => ai_isr v
  | _ => false
theorem ai_fit_ok {sa : Nat → Nat} {ad : List Nat} {ty : FieldType} {v V : Value} (hf : ai_fit ty v = true) (hv : ai_v sa ad v V) : narrow ty V = V ∧ fits ty V = true := by
  cases ty with
  | int =>
    cases v with
    | int x => rw [show V = .int x from hv]; exact ⟨rfl, rfl⟩
    | _ => cases hf
  | object C => rcases ai_isr_v hf hv with rfl | ⟨a, rfl⟩ <;> exact ⟨rfl, rfl⟩
  | array t => rcases ai_isr_v hf hv with rfl | ⟨a, rfl⟩ <;> exact ⟨rfl, rfl⟩
  | _ => cases hf
section AIF
variable {p : Program} {l : Launch} {e : Env} {R : Room} {s : State} {m : MethodId} {args : Array Value} {below : List Frame} {meth : Method} {c : Code} {Q : State → Prop}
variable {Z : ai_S} {cn : Nat → String} {sa : Nat → Nat} {D : va_G} {cl : List vw_C} {A : Nat → Prop} {ad0 : List Nat} {kc ks : Nat}
variable {cc : ByteArray} {pc t : Nat} {L L' : ai_L} {S S' : List Value} {h h' : ai_H} {pcs : Nat → Nat} {zc : Nat → String × u_T} {Ts : List Cond} {ty0 : Nat → Nat → FieldType} {own : String} {idx ci k0 : Nat}
theorem ai_alen_ok (hx : p.tables.exec = Jvm.exec) (hb : c.code = cc) (hd : decode cc pc = .ok (.arraylength, 1)) (hZ : ∀ k x, Z k = some x → ai_zc zc sa x (sa k) A s s.heap)
    (he : ai_alen Z L S h = some (t, L', S', h')) (k : ai_W p l e R s m args below meth c Q Z cn sa D cl A ad0 kc ks (ai_nx pcs pc 1 t) L' S' h') : ai_W p l e R s m args below meth c Q Z cn sa D cl A ad0 kc ks pc L S h := by
  unfold ai_alen at he
  split at he
  · rename_i v r
    split at he
    · rename_i ty n f hlook
      simp only [Option.some.injEq, Prod.mk.injEq] at he
      obtain ⟨rfl, rfl, rfl, rfl⟩ := he
      intro ad tys ws H locs cells slots ls st ha hl hs
      obtain ⟨V, T, rfl, hv, hs9⟩ := ai_vs_cons hs
      have K := k ad tys ws H locs cells slots ls (.int (Int32.ofNat n) :: T) ha hl ⟨rfl, hs9⟩
      obtain ⟨-, -, -, hw, hK, hP, hD, hS⟩ := ha
      cases v with
      | ref j =>
        obtain ⟨a, E, rfl, g1, -, -, cA, t0, rfl, g2⟩ := ai_w_at hw hlook hv
        exact va_alen hx hb hK hP j t0 g1 g2 rfl hd K
      | retAddr j =>
        rw [show V = .ref (sa j) from hv]
        exact va_tlen hx hb (hZ j _ hlook) hS rfl hd K
      | _ => cases hlook
    · rename_i n f hlook
      simp only [Option.some.injEq, Prod.mk.injEq] at he
      obtain ⟨rfl, rfl, rfl, rfl⟩ := he
      intro ad tys ws H locs cells slots ls st ha hl hs
      obtain ⟨V, T, rfl, hv, hs9⟩ := ai_vs_cons hs
      have K := k ad tys ws H locs cells slots ls (.int (Int32.ofNat n) :: T) ha hl ⟨rfl, hs9⟩
      obtain ⟨-, -, -, hw, hK, hP, hD, hS⟩ := ha
      cases v with
      | ref j =>
        obtain ⟨a, E, rfl, g1, cA, t0, rfl, g2⟩ := ai_w_at hw hlook hv
        exact va_alen hx hb hK hP j t0 g1 g2 rfl hd K
      | retAddr j => exact (hZ j _ hlook).elim
      | _ => cases hlook
    · rename_i C n g hlook
      simp only [Option.some.injEq, Prod.mk.injEq] at he
      obtain ⟨rfl, rfl, rfl, rfl⟩ := he
      intro ad tys ws H locs cells slots ls st ha hl hs
      obtain ⟨V, T, rfl, hv, hs9⟩ := ai_vs_cons hs
      have K := k ad tys ws H locs cells slots ls (.int (Int32.ofNat n) :: T) ha hl ⟨rfl, hs9⟩
      obtain ⟨-, -, -, hw, hK, hP, hD, hS⟩ := ha
      cases v with
      | ref j =>
        obtain ⟨a, E, rfl, g1, cA, t0, f, rfl, g2, g3⟩ := ai_w_at hw hlook hv
        exact va_alen hx hb hK hP j t0 g1 g2 rfl hd K
      | retAddr j =>
        rw [show V = .ref (sa j) from hv]
        obtain ⟨f, hT, -⟩ := hZ j _ hlook
        exact va_tlen hx hb hT hS rfl hd K
      | _ => cases hlook
    · cases he
  · cases he
theorem ai_aald_ok (hx : p.tables.exec = Jvm.exec) (hb : c.code = cc) (hd : decode cc pc = .ok (.aaload, 1)) (hZ : ∀ k x, Z k = some x → ai_zc zc sa x (sa k) A s s.heap)
    (he : ai_aald Z L S h = some (t, L', S', h')) (k : ai_W p l e R s m args below meth c Q Z cn sa D cl A ad0 kc ks (ai_nx pcs pc 1 t) L' S' h') : ai_W p l e R s m args below meth c Q Z cn sa D cl A ad0 kc ks pc L S h := by
  unfold ai_aald at he
  split at he
  · rename_i i v r
    split at he
    · rename_i C n g hlook
      split at he
      · rename_i hc
        obtain ⟨hi0, hin⟩ := hc
        simp only [Option.some.injEq, Prod.mk.injEq] at he
        obtain ⟨rfl, rfl, rfl, rfl⟩ := he
        intro ad tys ws H locs cells slots ls st ha hl hs
        obtain ⟨V, T, rfl, hv, hs⟩ := ai_vs_cons hs
        obtain ⟨V2, T, rfl, hv2, hs9⟩ := ai_vs_cons hs
        rw [show V = .int i from hv]
        have hvp : vp_in i n := fun z => z.elim hi0 (fun z => by omega)
        have hw := ha.2.2.2.1
        have hK := ha.2.2.2.2.1
        have hP := ha.2.2.2.2.2.1
        have hS := ha.2.2.2.2.2.2.2
        cases v with
        | ref j =>
          obtain ⟨a, E, rfl, g1, cA, t0, f, rfl, g2, g3⟩ := ai_w_at hw hlook hv2
          refine va_aldq hx hb hK hP j t0 g1 g2 hvp hd (k ad tys ws H locs cells slots ls (va_rf (f i.toNatClampNeg) :: T) ha hl ⟨?_, hs9⟩)
          rcases g3 i.toNatClampNeg with ⟨e1, e2⟩ | ⟨k9, ci, fs, e1, e2, -⟩
          · rw [e1, e2]; rfl
          · rw [e1, e2]; rfl
        | retAddr j =>
          rw [show V2 = .ref (sa j) from hv2]
          obtain ⟨f, hT, hf⟩ := hZ j _ hlook
          exact vb_tq hx hb hT hS hvp rfl hd (k ad tys ws H locs cells slots ls (f i.toNatClampNeg :: T) ha hl ⟨ai_v_nil (hf _ hin), hs9⟩)
        | _ => cases hlook
      · cases he
    · cases he
  · cases he
theorem ai_aast_ok (hx : p.tables.exec = Jvm.exec) (hb : c.code = cc) (hd : decode cc pc = .ok (.aastore, 1)) (hZ : ∀ k x, Z k = some x → ai_zc zc sa x (sa k) A s s.heap) (hcn : ∀ ci, cn ci = (zc ci).1)
    (he : ai_aast Z cn L S h = some (t, L', S', h')) (k : ai_W p l e R s m args below meth c Q Z cn sa D cl A ad0 kc ks (ai_nx pcs pc 1 t) L' S' h') : ai_W p l e R s m args below meth c Q Z cn sa D cl A ad0 kc ks pc L S h := by
  unfold ai_aast at he
  split at he
  · rename_i v i j r
    split at he
    · rename_i C n g hlook
      split at he
      · rename_i ci fs hz
        split at he
        · rename_i hc
          obtain ⟨hC, hi0, hin⟩ := hc
          simp only [Option.some.injEq, Prod.mk.injEq] at he
          obtain ⟨rfl, rfl, rfl, rfl⟩ := he
          intro ad tys ws H locs cells slots ls st ha hl hs
          obtain ⟨V, T, rfl, hv, hs⟩ := ai_vs_cons hs
          obtain ⟨V2, T, rfl, hv2, hs⟩ := ai_vs_cons hs
          obtain ⟨V3, T, rfl, hv3, hs9⟩ := ai_vs_cons hs
          rw [show V = .ref (sa v) from hv, show V2 = .int i from hv2]
          obtain ⟨q1, q2, q3, hw, hK, hP, hD, hS⟩ := ha
          have hvp : vp_in i n := fun z => z.elim hi0 (fun z => by omega)
          obtain ⟨a, E, rfl, g1, cA, t0, f, rfl, g2, g3⟩ := ai_w_at hw hlook hv3
          obtain ⟨hO, -⟩ := hZ v _ hz
          obtain ⟨cellV, o1, o2, o3, -⟩ := va_O.kept hO hS.2.1
          refine vb_astq (C := C) hx hb hK hP hD hS j t0 g1 g2 ⟨cellV, o1, o2, by rw [← hC, hcn]; exact o3⟩ (fun comp c0 h1 h2 => vb_asgS comp c0 h1 h2) hvp hd (fun H1 locs1 hP1 hD1 hS1 => ?_)
          refine k ad tys _ H1 locs1 cells slots ls T ⟨q1, q2, q3, ai_w_set hw g1 ⟨cA, t0, _, rfl, g2, fun z => ?_⟩, hK, hP1, hD1, hS1⟩ hl hs9
          by_cases hzz : z = i.toNatClampNeg
          · subst hzz
            exact Or.inr ⟨v, ci, fs, by simp [va_up], by simp [va_up], hz, hC⟩
          · simp only [va_up, if_neg hzz]
            exact g3 z
        · cases he
      · cases he
    · cases he
  · cases he
/-- a field is read -/
theorem ai_getf_ok (hx : p.tables.exec = Jvm.exec) (hb : c.code = cc) (hd : decode cc pc = .ok (.getfield idx, 3)) (hts : ∀ w ∈ Ts, w.before args s = true) (hcl : ai_clok Ts cl ty0) (hown : s.vm.findClass own = some m.cls) (hZ : ∀ k x, Z k = some x → ai_zc zc sa x (sa k) A s s.heap)
    (hlD : ∀ q, cl[ci]? = some q → k0 < q.2.2 ∧ ai_fl s args own idx (q.2.1 k0)) (hlZ : cl[ci]? = none → ai_fl s args own idx ((zc ci).2 k0)) (hcZ : ∀ j fs, Z j = some (ai_obj ci fs) → cl[ci]? = none)
    (he : ai_getf Z ci k0 L S h = some (t, L', S', h')) (k : ai_W p l e R s m args below meth c Q Z cn sa D cl A ad0 kc ks (ai_nx pcs pc 3 t) L' S' h') : ai_W p l e R s m args below meth c Q Z cn sa D cl A ad0 kc ks pc L S h := by
  unfold ai_getf at he
  split at he
  · rename_i v r
    split at he
    · rename_i ci' fs hlook
      split at he
      · rename_i w hfk
        split at he
        · rename_i hc
          subst hc
          simp only [Option.some.injEq, Prod.mk.injEq] at he
          obtain ⟨rfl, rfl, rfl, rfl⟩ := he
          intro ad tys ws H locs cells slots ls st ha hl hs
          obtain ⟨V, T, rfl, hv, hs9⟩ := ai_vs_cons hs
          have hw := ha.2.2.2.1
          have hK := ha.2.2.2.2.1
          have hP := ha.2.2.2.2.2.1
          have hS := ha.2.2.2.2.2.2.2
          cases v with
          | ref j =>
            obtain ⟨a, E, rfl, g1, vs, rfl, g2⟩ := ai_w_at hw hlook hv
            obtain ⟨V2, g3, g4⟩ := ai_vs_get g2 hfk
            have K := k ad tys ws H locs cells slots ls (V2 :: T) ha hl ⟨g4, hs9⟩
            obtain ⟨⟨C, T9, N⟩, hq, -⟩ := hP j _ g1
            obtain ⟨hk, hfl⟩ := hlD _ hq
            obtain ⟨c1, c2, c3⟩ := hcl _ _ hq
            rcases hfl with hfl | ⟨host, hfl⟩
            · exact va_get hx hb hts c1 hown hK hP j g1 hq k0 hk hfl (fun _ h9 => h9) g3 hd K
            · exact va_getN hx hb hts c1 hown hK hP j g1 hq k0 hk hfl (fun _ h9 => h9) g3 hd K
          | retAddr j =>
            rw [show V = .ref (sa j) from hv]
            obtain ⟨-, hF⟩ := hZ j _ hlook
            obtain ⟨V2, g4, g5⟩ := hF k0 w hfk
            have K := k ad tys ws H locs cells slots ls (V2 :: T) ha hl ⟨ai_v_nil g4, hs9⟩
            have hfl : ai_fl s args own idx ((zc ci').2 k0) := hlZ (hcZ j fs hlook)
            rcases hfl with hfl | ⟨host, hfl⟩
            · exact vk_getf hx hb g5 hS hown hfl (fun _ h9 => h9) hd K
            · obtain ⟨cf, k9, i9, f9, cell, h1, h2, h3, h4, h5, h6⟩ := va_OF.kept g5 hS.2.1
              exact va_Wgetf hx hb hown hfl h1 h2 h3 h4 h5 rfl rfl hd K
          | _ => cases hlook
        · cases he
      · cases he
    · cases he
  · cases he
/-- a field is written -/
theorem ai_putf_ok (hx : p.tables.exec = Jvm.exec) (hb : c.code = cc) (hd : decode cc pc = .ok (.putfield idx, 3)) (hts : ∀ w ∈ Ts, w.before args s = true) (hcl : ai_clok Ts cl ty0) (hown : s.vm.findClass own = some m.cls)
    {q : vw_C} (hq : cl[ci]? = some q) (hk : k0 < q.2.2) (hfl : (Cond.fieldLink own idx (q.2.1 k0).1 (q.2.1 k0).2.1 (q.2.1 k0).2.2.1).before args s = true) (hfin : (q.2.1 k0).2.2.2 = false ∨ (meth.name = "<init>" ∧ (q.2.1 k0).1 = own))
    (he : ai_putf (fun ci k v => ai_fit (ty0 ci k) v) ci k0 L S h = some (t, L', S', h')) (k : ai_W p l e R s m args below meth c Q Z cn sa D cl A ad0 kc ks (ai_nx pcs pc 3 t) L' S' h') : ai_W p l e R s m args below meth c Q Z cn sa D cl A ad0 kc ks pc L S h := by
  unfold ai_putf at he
  split at he
  · rename_i v j r
    split at he
    · rename_i ci' fs hlook
      split at he
      · rename_i hc
        obtain ⟨rfl, hkl, hft⟩ := hc
        simp only [Option.some.injEq, Prod.mk.injEq] at he
        obtain ⟨rfl, rfl, rfl, rfl⟩ := he
        intro ad tys ws H locs cells slots ls st ha hl hs
        obtain ⟨V, T, rfl, hv, hs⟩ := ai_vs_cons hs
        obtain ⟨V2, T, rfl, hv2, hs9⟩ := ai_vs_cons hs
        obtain ⟨q1, q2, q3, hw, hK, hP, hD, hS⟩ := ha
        obtain ⟨a, E, rfl, g1, vs, rfl, g2⟩ := ai_w_at hw hlook hv2
        obtain ⟨n1, n2⟩ := ai_fit_ok hft hv
        obtain ⟨c1, c2, c3⟩ := hcl _ _ hq
        have hlen : k0 < vs.length := by rw [ai_vs_len g2]; exact hkl
        have KK : ∀ (H1 : Heap) (locs1 : List Loc), va_P D cl (ws.set j (a, .inr (ci', vs.set k0 V))) H1 → va_D A (ws.set j (a, .inr (ci', vs.set k0 V))) → va_S A s.heap H1 locs1 → W p l e R s m args below meth c H1 locs1 cells slots Q (F0 m (pc + 3) ls T) := fun H1 locs1 hP1 hD1 hS1 =>
          k ad tys _ H1 locs1 cells slots ls T ⟨q1, q2, q3, ai_w_set hw g1 ⟨_, rfl, ai_vs_set hv k0 g2⟩, hK, hP1, hD1, hS1⟩ hl hs9
        obtain ⟨C, T9, N⟩ := q
        rcases Bool.eq_false_or_eq_true (T9 k0).2.2.2 with hf | hf
        · rcases hfin with hz | ⟨hz1, hz2⟩
          · rw [show (T9 k0).2.2.2 = false from hz] at hf; cases hf
          · exact va_putF hx hb hts c1 (ty0 ci') c2 c3 hown hK hP hD hS j g1 hq k0 hk hfl (fun _ h9 => h9) hf hz1 hz2 (c2 k0 hk) n1 n2 hlen hd KK
        · exact va_put hx hb hts c1 (ty0 ci') c2 c3 hown hK hP hD hS j g1 hq k0 hk hfl (fun _ h9 => h9) hf (c2 k0 hk) n1 n2 hlen hd KK
      · cases he
    · cases he
  · cases he
end AIF
end
section
/-- the values of a new object's fields -/
def ai_dok (cl : List vw_C) (ty0 : Nat → Nat → FieldType) (df : Nat → List Value) : Prop := ∀ (ci : Nat) (q : vw_C), cl[ci]? = some q → (∀ j, j < q.2.2 → defaultValue (ty0 ci j) = vp_V (df ci) j) ∧ (df ci).length = q.2.2 ∧ ∀ v ∈ df ci, v = .null ∨ v = .int 0
theorem ai_vs_df {sa : Nat → Nat} {ad : List Nat} : ∀ {S : List Value}, (∀ v ∈ S, v = .null ∨ v = .int 0) → ai_vs sa ad S S
  | [], _ => trivial
  | v :: S, h => by
    refine ⟨?_, ai_vs_df fun w hw => h w (List.mem_cons_of_mem _ hw)⟩
    rcases h v List.mem_cons_self with rfl | rfl <;> rfl
section AIN
variable {p : Program} {l : Launch} {e : Env} {R : Room} {s : State} {m : MethodId} {args : Array Value} {below : List Frame} {meth : Method} {c : Code} {Q : State → Prop}
variable {Z : ai_S} {cn : Nat → String} {sa : Nat → Nat} {D : va_G} {cl : List vw_C} {A : Nat → Prop} {ad0 : List Nat} {kc ks : Nat}
variable {cc : ByteArray} {pc t : Nat} {L L' : ai_L} {S S' : List Value} {h h' : ai_H} {pcs : Nat → Nat} {zc : Nat → String × u_T} {Ts : List Cond} {ty0 : Nat → Nat → FieldType} {own : String} {idx ci k0 : Nat} {G : ai_G}
theorem ai_At_push {ad : List Nat} {tys tt : List (ClassId × FieldType)} {ws : va_W} {H H1 : Heap} {locs : List Loc} {cells slots n a : Nat} {x : ai_C} {E : va_E} (ha : ai_At s Z cn sa D cl A ad0 kc ks h ad tys ws H locs cells slots)
    (hc : ai_c Z cn sa (ad ++ [a]) (tys ++ tt) x E) (hK : va_K D cl (tys ++ tt) s) (hP : va_P D cl (ws ++ [(a, E)]) H1) (hD : va_D A (ws ++ [(a, E)])) (hS : va_S A s.heap H1 locs) :
    ai_At s Z cn sa D cl A ad0 kc ks (h.1 ++ [x], h.2.1 + 1, h.2.2 + n) (ad ++ [a]) (tys ++ tt) (ws ++ [(a, E)]) H1 locs (cells + 1) (slots + n) := by
  obtain ⟨⟨q, q1⟩, q2, q3, hw, -⟩ := ha
  exact ⟨⟨q ++ [a], by rw [q1, List.append_assoc]⟩, by show h.2.1 + 1 = _; omega, by show h.2.2 + n = _; omega, ai_w_push hw hc, hK, hP, hD, hS⟩
theorem ai_new_ok (hx : p.tables.exec = Jvm.exec) (hb : c.code = cc) (hd : decode cc pc = .ok (.new idx, 3)) (hts : ∀ w ∈ Ts, w.before args s = true) (hcl : ai_clok Ts cl ty0) (hown : s.vm.findClass own = some m.cls) (hA : ∀ q, s.heap.size ≤ q → A q)
    {q : vw_C} (hq : cl[ci]? = some q) (hdf : ai_dok cl ty0 G.2.2.1) (hlk : (Cond.classLink own idx q.1).before args s = true) (hin : (Cond.instantiable q.1 q.2.2).before args s = true) (hini : (Cond.initialized q.1).before args s = true)
    (he : ai_new G ci L S h = some (t, L', S', h')) (hR1 : h'.2.1 ≤ kc + R.cells) (hR2 : h'.2.2 ≤ ks + R.slots) (k : ai_W p l e R s m args below meth c Q Z cn sa D cl A ad0 kc ks (ai_nx pcs pc 3 t) L' S' h') : ai_W p l e R s m args below meth c Q Z cn sa D cl A ad0 kc ks pc L S h := by
  simp only [ai_new, Option.some.injEq, Prod.mk.injEq] at he
  obtain ⟨rfl, rfl, rfl, rfl⟩ := he
  obtain ⟨d1, d2, d3⟩ := hdf _ _ hq
  intro ad tys ws H locs cells slots ls st ha hl hs
  obtain ⟨c1, c2, c3⟩ := hcl _ _ hq
  obtain ⟨C, T9, N⟩ := q
  have q2 : h.2.1 = kc + cells := ha.2.1
  have q3 : h.2.2 = ks + slots := ha.2.2.1
  have hR1 : h.2.1 + 1 ≤ kc + R.cells := hR1
  have hR2 : h.2.2 + (G.2.2.1 ci).length ≤ ks + R.slots := hR2
  have d2 : (G.2.2.1 ci).length = N := d2
  rw [d2] at hR2
  refine va_new (ci := ci) (fs := G.2.2.1 ci) (C := C) (T := T9) (N := N) hx hb hts c1 (ty0 ci) c2 hown hlk hin hini ha.2.2.2.2.1 ha.2.2.2.2.2.1 ha.2.2.2.2.2.2.1 ha.2.2.2.2.2.2.2 hA hq d1 (by omega) (by omega) hd (fun a H1 hP1 hD1 hS1 => ?_)
  have hK := ha.2.2.2.2.1
  have hA1 := ai_At_push (tt := []) (n := (G.2.2.1 ci).length) (x := ai_obj ci (G.2.2.1 ci)) (E := .inr (ci, G.2.2.1 ci)) ha ⟨_, rfl, ai_vs_df d3⟩ (by rw [List.append_nil]; exact hK) hP1 hD1 hS1
  rw [d2] at hA1
  rw [d2] at k
  exact k (ad ++ [a]) (tys ++ []) _ H1 locs (cells + 1) (slots + N) ls (.ref a :: st) hA1 (ai_l_more hl [a]) ⟨ai_v_new ha.2.2.2.1.2.1, ai_vs_more [a] hs⟩
theorem ai_fits0 {ty : FieldType} (h : ai_ty ty) : fits ty (.int 0) = true := by
  rcases h with rfl | rfl | rfl | rfl <;> rfl
theorem ai_def0 {ty : FieldType} (h : ai_ty ty) : defaultValue ty = .int 0 := by
  rcases h with rfl | rfl | rfl | rfl <;> rfl
theorem ai_comp8 (ty : FieldType) : componentBytes ty ≤ 8 := by
  cases ty <;> first | decide | exact Nat.le_of_ble_eq_true rfl
theorem ai_newa_ok (hx : p.tables.exec = Jvm.exec) (hb : c.code = cc) {at0 : ArrayType} (hd : decode cc pc = .ok (.newarray at0, 2)) (hA : ∀ q, s.heap.size ≤ q → A q) (hty : ai_ty (newarray.typeOf at0) ∨ newarray.typeOf at0 = .long) (harr : (Cond.arrayClass (newarray.typeOf at0)).before args s = true)
    (he : ai_newa (newarray.typeOf at0) L S h = some (t, L', S', h')) (hR1 : h'.2.1 ≤ kc + R.cells) (hR2 : h'.2.2 ≤ ks + R.slots) (k : ai_W p l e R s m args below meth c Q Z cn sa D cl A ad0 kc ks (ai_nx pcs pc 2 t) L' S' h') : ai_W p l e R s m args below meth c Q Z cn sa D cl A ad0 kc ks pc L S h := by
  unfold ai_newa at he
  split at he
  · rename_i n r
    split at he
    · rename_i hc
      obtain ⟨hn0, hn1⟩ := hc
      simp only [Option.some.injEq, Prod.mk.injEq] at he
      obtain ⟨rfl, rfl, rfl, rfl⟩ := he
      intro ad tys ws H locs cells slots ls st ha hl hs
      obtain ⟨V, T, rfl, hv, hs9⟩ := ai_vs_cons hs
      rw [show V = .int n from hv]
      have q2 : h.2.1 = kc + cells := ha.2.1
      have q3 : h.2.2 = ks + slots := ha.2.2.1
      have hR1 : h.2.1 + 1 ≤ kc + R.cells := hR1
      have hR2 : h.2.2 + n.toNatClampNeg ≤ ks + R.slots := hR2
      have hby : n.toNatClampNeg * componentBytes (newarray.typeOf at0) ≤ 536870912 := by
        have := Nat.mul_le_mul hn1 (ai_comp8 (newarray.typeOf at0))
        omega
      by_cases hlong : newarray.typeOf at0 = .long
      · rw [if_pos hlong] at k
        refine va_newa (a0 := (n.toNatClampNeg, .inr (.inl (fun _ => 0)))) hx hb harr rfl ha.2.2.2.2.1 ha.2.2.2.2.2.1 ha.2.2.2.2.2.2.1 ha.2.2.2.2.2.2.2 hA (fun cA => by rw [hlong]; rfl) hn0 rfl hby (by omega) (by omega) hd (fun a cA H1 hK1 hP1 hD1 hS1 => ?_)
        have hA1 := ai_At_push (tt := [(cA, newarray.typeOf at0)]) (n := n.toNatClampNeg) (x := ai_lng n.toNatClampNeg (fun _ => 0)) (E := .inl (cA, n.toNatClampNeg, .inr (.inl (fun _ => 0)))) ha ⟨cA, tys.length, rfl, by rw [← hlong]; simp⟩ hK1 hP1 hD1 hS1
        exact k (ad ++ [a]) _ _ H1 locs (cells + 1) (slots + n.toNatClampNeg) ls (.ref a :: T) hA1 (ai_l_more hl [a]) ⟨ai_v_new ha.2.2.2.1.2.1, ai_vs_more [a] hs9⟩
      · rw [if_neg hlong] at k
        have hty1 : ai_ty (newarray.typeOf at0) := hty.resolve_right hlong
        refine va_newa (a0 := (n.toNatClampNeg, .inl (fun _ => 0))) hx hb harr rfl ha.2.2.2.2.1 ha.2.2.2.2.2.1 ha.2.2.2.2.2.2.1 ha.2.2.2.2.2.2.2 hA (fun cA => by rw [ai_def0 hty1]; rfl) hn0 rfl hby (by omega) (by omega) hd (fun a cA H1 hK1 hP1 hD1 hS1 => ?_)
        have hA1 := ai_At_push (tt := [(cA, newarray.typeOf at0)]) (n := n.toNatClampNeg) (x := ai_num (newarray.typeOf at0) n.toNatClampNeg (fun _ => 0)) (E := .inl (cA, n.toNatClampNeg, .inl (fun _ => 0))) ha ⟨hty1, fun _ => ai_fits0 hty1, cA, tys.length, rfl, by simp⟩ hK1 hP1 hD1 hS1
        exact k (ad ++ [a]) _ _ H1 locs (cells + 1) (slots + n.toNatClampNeg) ls (.ref a :: T) hA1 (ai_l_more hl [a]) ⟨ai_v_new ha.2.2.2.1.2.1, ai_vs_more [a] hs9⟩
    · cases he
  · cases he
theorem ai_newq_ok (hx : p.tables.exec = Jvm.exec) (hb : c.code = cc) (hd : decode cc pc = .ok (.anewarray idx, 3)) (hown : s.vm.findClass own = some m.cls) (hA : ∀ q, s.heap.size ≤ q → A q) {C : String} (hlk : (Cond.classLink own idx C).before args s = true) (hover : va_AO C s)
    (he : ai_newq C L S h = some (t, L', S', h')) (hR1 : h'.2.1 ≤ kc + R.cells) (hR2 : h'.2.2 ≤ ks + R.slots) (k : ai_W p l e R s m args below meth c Q Z cn sa D cl A ad0 kc ks (ai_nx pcs pc 3 t) L' S' h') : ai_W p l e R s m args below meth c Q Z cn sa D cl A ad0 kc ks pc L S h := by
  unfold ai_newq at he
  split at he
  · rename_i n r
    split at he
    · rename_i hc
      obtain ⟨hn0, hn1⟩ := hc
      simp only [Option.some.injEq, Prod.mk.injEq] at he
      obtain ⟨rfl, rfl, rfl, rfl⟩ := he
      intro ad tys ws H locs cells slots ls st ha hl hs
      obtain ⟨V, T, rfl, hv, hs9⟩ := ai_vs_cons hs
      rw [show V = .int n from hv]
      have q2 : h.2.1 = kc + cells := ha.2.1
      have q3 : h.2.2 = ks + slots := ha.2.2.1
      have hR1 : h.2.1 + 1 ≤ kc + R.cells := hR1
      have hR2 : h.2.2 + n.toNatClampNeg ≤ ks + R.slots := hR2
      refine va_newq hx hb hown hlk hover ha.2.2.2.2.1 ha.2.2.2.2.2.1 ha.2.2.2.2.2.2.1 ha.2.2.2.2.2.2.2 hA hn0 rfl (by omega) (by omega) (by omega) hd (fun a cA H1 hK1 hP1 hD1 hS1 => ?_)
      have hA1 := ai_At_push (tt := [(cA, .object C)]) (n := n.toNatClampNeg) (x := ai_refs C n.toNatClampNeg (fun _ => .null)) (E := .inl (cA, n.toNatClampNeg, .inr (.inr (.inr (.inr (fun _ => none)))))) ha ⟨cA, tys.length, fun _ => none, rfl, by simp, fun _ => Or.inl ⟨rfl, rfl⟩⟩ hK1 hP1 hD1 hS1
      exact k (ad ++ [a]) _ _ H1 locs (cells + 1) (slots + n.toNatClampNeg) ls (.ref a :: T) hA1 (ai_l_more hl [a]) ⟨ai_v_new ha.2.2.2.1.2.1, ai_vs_more [a] hs9⟩
    · cases he
  · cases he
end AIN
end
section
section AIO
variable {p : Program} {l : Launch} {e : Env} {R : Room} {s : State} {m : MethodId} {args : Array Value} {below : List Frame} {meth : Method} {c : Code} {Q : State → Prop}
variable {Z : ai_S} {cn : Nat → String} {sa : Nat → Nat} {D : va_G} {cl : List vw_C} {A : Nat → Prop} {ad0 : List Nat} {kc ks : Nat}
variable {cc : ByteArray} {pc t : Nat} {L L' : ai_L} {S S' : List Value} {h h' : ai_H} {pcs : Nat → Nat} {zc : Nat → String × u_T} {own : String} {idx : Nat} {r : ai_R}
theorem ai_prim {ty : FieldType} (h : ai_ty ty) : refKind ty = false := by
  rcases h with rfl | rfl | rfl | rfl <;> rfl
theorem ai_cpy_fits {ty : FieldType} {f g : Nat → Int32} (hf : ∀ j, fits ty (.int (f j)) = true) (hg : ∀ j, fits ty (.int (g j)) = true) (sp dp n j : Nat) : fits ty (.int (va_cpy f g sp dp n j)) = true := by
  unfold va_cpy
  split
  · exact hf _
  · exact hg _
theorem ai_copy_ok (hx : p.tables.exec = Jvm.exec) (hb : c.code = cc) (hd : decode cc pc = .ok (.invokestatic idx, 3)) (hown : s.vm.findClass own = some m.cls) (hZ : ∀ k x, Z k = some x → ai_zc zc sa x (sa k) A s s.heap) (hcn : ∀ ci, cn ci = (zc ci).1)
    (hlink : (Cond.methodLink own idx arraycopyName).before args s = true) (hnat : (Cond.native arraycopyName).before args s = true) (hstat : (Cond.static arraycopyName).before args s = true) (hini : (Cond.initialized "java/lang/System").before args s = true)
    (hRf : 1 ≤ R.frames) (hRl : 8 + (nativeFrameWords "java/lang/System" "arraycopy" 5 + 11) ≤ R.locals)
    (he : ai_copy S h = some (S', h')) (hwt : ai_wt S' ≤ 8) (k : ai_W p l e R s m args below meth c Q Z cn sa D cl A ad0 kc ks (pc + 3) L S' h') : ai_W p l e R s m args below meth c Q Z cn sa D cl A ad0 kc ks pc L S h := by
  unfold ai_copy at he
  split at he
  · rename_i n dp d sp a r
    split at he
    · cases he
    · rename_i hpos
      have h1 : ¬ sp < 0 := fun z => hpos (Or.inr (Or.inr z))
      have h2 : ¬ dp < 0 := fun z => hpos (Or.inr (Or.inl z))
      have h3 : ¬ n < 0 := fun z => hpos (Or.inl z)
      split at he
      · rename_i t0 n0 f hla
        split at he
        · rename_i t1 n1 g hld
          split at he
          · rename_i hc
            obtain ⟨rfl, h4, h5⟩ := hc
            simp only [Option.some.injEq, Prod.mk.injEq] at he
            obtain ⟨rfl, rfl⟩ := he
            intro ad tys ws H locs cells slots ls st ha hl hs
            obtain ⟨V, T, rfl, hv, hs⟩ := ai_vs_cons hs
            obtain ⟨V2, T, rfl, hv2, hs⟩ := ai_vs_cons hs
            obtain ⟨V3, T, rfl, hv3, hs⟩ := ai_vs_cons hs
            obtain ⟨V4, T, rfl, hv4, hs⟩ := ai_vs_cons hs
            obtain ⟨V5, T, rfl, hv5, hs9⟩ := ai_vs_cons hs
            rw [show V = .int n from hv, show V2 = .int dp from hv2, show V4 = .int sp from hv4]
            have hwT : (T.map fun v => v.category).sum ≤ 8 := by
              have := ai_vs_wt hs9
              unfold ai_wt at this hwt
              omega
            obtain ⟨q1, q2, q3, hw, hK, hP, hD, hS⟩ := ha
            obtain ⟨a0, E0, rfl, g1, gty, gf, c0, i0, rfl, g2⟩ := ai_w_at hw hla hv5
            obtain ⟨a1, E1, rfl, e1, ety, ef, c1, i1, rfl, e2⟩ := ai_w_at hw hld hv3
            have hml : c.maxLocals = ls.size := by obtain ⟨_, lv, hlv, _⟩ := hl; exact hlv.1.symm
            refine va_copyi hx hb hml hown hlink hnat hstat hini hK hP hD hS a d i0 i1 g1 e1 g2 e2 (ai_prim gty) h1 h2 h3 h4 h5 (fun i _ => gf _) hRf (by omega) hd (fun H1 locs1 hP1 hD1 hS1 => ?_)
            exact k ad tys _ H1 locs1 cells slots ls T ⟨q1, q2, q3, ai_w_set hw e1 ⟨ety, fun j => ai_cpy_fits gf ef _ _ _ j, c1, i1, rfl, e2⟩, hK, hP1, hD1, hS1⟩ hl hs9
          · cases he
        · cases he
      · rename_i C0 n0 f hla
        split at he
        · rename_i C1 n1 g hld
          split at he
          · rename_i hc
            obtain ⟨rfl, h4, h5⟩ := hc
            simp only [Option.some.injEq, Prod.mk.injEq] at he
            obtain ⟨rfl, rfl⟩ := he
            intro ad tys ws H locs cells slots ls st ha hl hs
            obtain ⟨V, T, rfl, hv, hs⟩ := ai_vs_cons hs
            obtain ⟨V2, T, rfl, hv2, hs⟩ := ai_vs_cons hs
            obtain ⟨V3, T, rfl, hv3, hs⟩ := ai_vs_cons hs
            obtain ⟨V4, T, rfl, hv4, hs⟩ := ai_vs_cons hs
            obtain ⟨V5, T, rfl, hv5, hs9⟩ := ai_vs_cons hs
            rw [show V = .int n from hv, show V2 = .int dp from hv2, show V4 = .int sp from hv4]
            have hwT : (T.map fun v => v.category).sum ≤ 8 := by
              have := ai_vs_wt hs9
              unfold ai_wt at this hwt
              omega
            obtain ⟨q1, q2, q3, hw, hK, hP, hD, hS⟩ := ha
            obtain ⟨a0, E0, rfl, g1, c0, i0, f0, rfl, g2, g3⟩ := ai_w_at hw hla hv5
            obtain ⟨a1, E1, rfl, e1, c1, i1, f1, rfl, e2, e3⟩ := ai_w_at hw hld hv3
            have hml : c.maxLocals = ls.size := by obtain ⟨_, lv, hlv, _⟩ := hl; exact hlv.1.symm
            refine va_copyq (C := C0) hx hb hml hown hlink hnat hstat hini hK hP hD hS a d i0 i1 g1 e1 g2 e2 h1 h2 h3 h4 h5 (fun i _ y hy => ?_) (fun comp c0 z1 z2 => vb_asgS comp c0 z1 z2) hRf (by omega) hd (fun H1 locs1 hP1 hD1 hS1 => ?_)
            · rcases g3 (sp.toNatClampNeg + i) with ⟨-, z2⟩ | ⟨k9, ci, fs, z1, z2, z3, z4⟩
              · rw [z2] at hy; cases hy
              · rw [z2] at hy
                cases hy
                obtain ⟨hO, -⟩ := hZ k9 _ z3
                obtain ⟨cellV, o1, o2, o3, -⟩ := va_O.kept hO hS.2.1
                exact ⟨cellV, o1, o2, by rw [← z4, hcn]; exact o3⟩
            · refine k ad tys _ H1 locs1 cells slots ls T ⟨q1, q2, q3, ai_w_set hw e1 ⟨c1, i1, _, rfl, e2, fun j => ?_⟩, hK, hP1, hD1, hS1⟩ hl hs9
              unfold va_cpy
              split
              · exact g3 _
              · exact e3 _
          · cases he
        · cases he
      · cases he
  · cases he
theorem ai_objinit_ok (hx : p.tables.exec = Jvm.exec) (hb : c.code = cc) (hd : decode cc pc = .ok (.invokespecial idx, 3)) (hown : s.vm.findClass own = some m.cls) (hlink : (Cond.methodLink own idx Lib.objectInit).before args s = true) (hinst : (Cond.instanceMethod Lib.objectInit).before args s = true) (hcode : (Cond.code Lib.objectInit ⟨#[0xb1]⟩ 1 none).before args s = true)
    (hRf : 1 ≤ R.frames) (hRl : 20 ≤ R.locals) {i : Nat} (hwt : ai_wt S ≤ 8) (k : ai_W p l e R s m args below meth c Q Z cn sa D cl A ad0 kc ks (pc + 3) L S h) : ai_W p l e R s m args below meth c Q Z cn sa D cl A ad0 kc ks pc L (.ref i :: S) h := by
  intro ad tys ws H locs cells slots ls st ha hl hs
  obtain ⟨V, T, rfl, ⟨a, -, rfl⟩, hs9⟩ := ai_vs_cons hs
  have hml : ls.size = c.maxLocals := by obtain ⟨_, lv, hlv, _⟩ := hl; exact hlv.1
  have hwT : (T.map fun v => v.category).sum ≤ 8 := by
    have := ai_vs_wt hs9
    unfold ai_wt at this hwt
    omega
  have hmr : 2 * (F0 m pc ls (.ref a :: T)).monitorRoom + (T.map fun v => v.category).sum ≤ 8 := lv_room hwT
  exact W.objInit (g := F0 m pc ls (.ref a :: T)) hx hb hown hlink hinst hcode rfl hml rfl hd hRf (by omega) (k ad tys ws H locs cells slots ls T ha hl hs9)
theorem ai_acmp_ok {ac : ACond} {off : Int} (hx : p.tables.exec = Jvm.exec) (hb : c.code = cc) (hd : decode cc pc = .ok (.if_acmp ac off, 3)) (ht : (pc : Int) + off = (pcs (ai_tgt r) : Int)) (hsa : ∀ i j, (∃ x, Z i = some x) → (∃ x, Z j = some x) → sa i = sa j → i = j) {x y : Value} {b : Bool} (hsm : ai_same x y = some b) (hzx : ai_zk Z x = true) (hzy : ai_zk Z y = true)
    (he : ai_jump (ai_ac ac b) r L S h = some (t, L', S', h')) (k : ai_W p l e R s m args below meth c Q Z cn sa D cl A ad0 kc ks (ai_nx pcs pc 3 t) L' S' h') : ai_W p l e R s m args below meth c Q Z cn sa D cl A ad0 kc ks pc L (y :: x :: S) h := by
  intro ad tys ws H locs cells slots ls st ha hl hs
  obtain ⟨V, T, rfl, hv, hs⟩ := ai_vs_cons hs
  obtain ⟨V2, T, rfl, hv2, hs9⟩ := ai_vs_cons hs
  have hz : ∀ k, (x = .retAddr k ∨ y = .retAddr k) → ∃ w, Z k = some w := by
    intro k hk
    rcases hk with rfl | rfl
    · exact Option.isSome_iff_exists.mp hzx
    · exact Option.isSome_iff_exists.mp hzy
  obtain ⟨rx, ry, rfl, rfl, hiff⟩ := ai_same_v hsa ha.2.2.2.1 ha.2.2.2.2.2.2.1 hz hsm hv2 hv
  have K : (t, L', S', h') = (t, L, S, h) → W p l e R s m args below meth c H locs cells slots Q (F0 m (ai_nx pcs pc 3 t) ls T) := fun hq => by
    simp only [Prod.mk.injEq, true_and] at hq
    obtain ⟨rfl, rfl, rfl⟩ := hq
    exact k ad tys ws H locs cells slots ls T ha hl hs9
  cases ac with
  | eq => exact ai_two (C := rx = ry) hiff (fun a b => lv_acmp_eq hx hb hd ht a b) he K
  | ne => exact ai_two (C := ¬ rx = ry) (by cases b <;> simp_all [ai_ac]) (fun a b => lv_acmp_ne hx hb hd ht a (fun z => b (fun y => y z))) he K
theorem ai_nul_v {ad : List Nat} {v V : Value} {b : Bool} (hn : ai_nul v = some b) (hv : ai_v sa ad v V) : (b = true ∧ V = .null) ∨ (b = false ∧ ∃ a, V = .ref a) := by
  cases v with
  | null => simp only [ai_nul, Option.some.injEq] at hn; exact Or.inl ⟨hn.symm, hv⟩
  | ref i => simp only [ai_nul, Option.some.injEq] at hn; obtain ⟨a, -, rfl⟩ := hv; exact Or.inr ⟨hn.symm, a, rfl⟩
  | retAddr i => simp only [ai_nul, Option.some.injEq] at hn; exact Or.inr ⟨hn.symm, _, hv⟩
  | _ => simp [ai_nul] at hn
theorem ai_ifnull_ok {off : Int} (hx : p.tables.exec = Jvm.exec) (hb : c.code = cc) (hd : decode cc pc = .ok (.ifnull off, 3)) (ht : (pc : Int) + off = (pcs (ai_tgt r) : Int)) {x : Value} {b : Bool} (hn : ai_nul x = some b)
    (he : ai_jump b r L S h = some (t, L', S', h')) (k : ai_W p l e R s m args below meth c Q Z cn sa D cl A ad0 kc ks (ai_nx pcs pc 3 t) L' S' h') : ai_W p l e R s m args below meth c Q Z cn sa D cl A ad0 kc ks pc L (x :: S) h := by
  simp only [ai_jump, Option.some.injEq, Prod.mk.injEq] at he
  obtain ⟨rfl, rfl, rfl, rfl⟩ := he
  intro ad tys ws H locs cells slots ls st ha hl hs
  obtain ⟨V, T, rfl, hv, hs9⟩ := ai_vs_cons hs
  have K := k ad tys ws H locs cells slots ls T ha hl hs9
  rcases ai_nul_v hn hv with ⟨rfl, rfl⟩ | ⟨rfl, a, rfl⟩
  · exact lv_ifnullN hx hb hd ht K
  · exact lv_ifnull hx hb hd K
theorem ai_ifnonnull_ok {off : Int} (hx : p.tables.exec = Jvm.exec) (hb : c.code = cc) (hd : decode cc pc = .ok (.ifnonnull off, 3)) (ht : (pc : Int) + off = (pcs (ai_tgt r) : Int)) {x : Value} {b : Bool} (hn : ai_nul x = some b)
    (he : ai_jump (!b) r L S h = some (t, L', S', h')) (k : ai_W p l e R s m args below meth c Q Z cn sa D cl A ad0 kc ks (ai_nx pcs pc 3 t) L' S' h') : ai_W p l e R s m args below meth c Q Z cn sa D cl A ad0 kc ks pc L (x :: S) h := by
  simp only [ai_jump, Option.some.injEq, Prod.mk.injEq] at he
  obtain ⟨rfl, rfl, rfl, rfl⟩ := he
  intro ad tys ws H locs cells slots ls st ha hl hs
  obtain ⟨V, T, rfl, hv, hs9⟩ := ai_vs_cons hs
  have K := k ad tys ws H locs cells slots ls T ha hl hs9
  rcases ai_nul_v hn hv with ⟨rfl, rfl⟩ | ⟨rfl, a, rfl⟩
  · exact lv_ifnonnullN hx hb hd K
  · exact lv_ifnonnull hx hb hd ht K
end AIO
end
section
/-- what the tables must say of an instruction at pc: its length, where it leads -/
def ai_lk (s : State) (args : Array Value) (meth : Method) (own : String) (sa : Nat → Nat) (A : Nat → Prop) (zc : Nat → String × u_T) (cl : List vw_C) (pcs : Nat → Nat) (pc : Nat) (i : Instr) (len : Nat) (r : ai_R) : Prop := match i with
  | .ldc idx => len = 2 ∧ ((ai_nth r 0 = 1 ∧ (Cond.constant own idx (Int32.ofInt (ai_nth r 1))).before args s = true) ∨ (ai_nth r 0 = 2 ∧ ∃ tx, vk_R own idx tx (sa (ai_nth r 1).toNat) s))
  | .ldc_w idx => len = 3 ∧ ((ai_nth r 0 = 1 ∧ (Cond.constant own idx (Int32.ofInt (ai_nth r 1))).before args s = true) ∨ (ai_nth r 0 = 2 ∧ ∃ tx, vk_R own idx tx (sa (ai_nth r 1).toNat) s))
  | .getstatic idx => len = 3 ∧ ∃ C n d V, va_Z C n d V A s s.heap ∧ ai_fl s args own idx (C, n, d, false) ∧ ((ai_nth r 0 = 1 ∧ V = .int (Int32.ofInt (ai_nth r 1))) ∨ (ai_nth r 0 = 2 ∧ V = .ref (sa (ai_nth r 1).toNat)) ∨ (ai_nth r 0 = 3 ∧ (V = .null ∨ ∃ a, V = .ref a)))
  | .getfield idx => len = 3 ∧ (∀ q, cl[(ai_nth r 0).toNat]? = some q → (ai_nth r 1).toNat < q.2.2 ∧ ai_fl s args own idx (q.2.1 (ai_nth r 1).toNat)) ∧ (cl[(ai_nth r 0).toNat]? = none → ai_fl s args own idx ((zc (ai_nth r 0).toNat).2 (ai_nth r 1).toNat))
  | .putfield idx => len = 3 ∧ ∃ q, cl[(ai_nth r 0).toNat]? = some q ∧ (ai_nth r 1).toNat < q.2.2 ∧ (Cond.fieldLink own idx (q.2.1 (ai_nth r 1).toNat).1 (q.2.1 (ai_nth r 1).toNat).2.1 (q.2.1 (ai_nth r 1).toNat).2.2.1).before args s = true ∧ ((q.2.1 (ai_nth r 1).toNat).2.2.2 = false ∨ (meth.name = "<init>" ∧ (q.2.1 (ai_nth r 1).toNat).1 = own))
  | .new idx => len = 3 ∧ ∃ q, cl[(ai_nth r 0).toNat]? = some q ∧ (Cond.classLink own idx q.1).before args s = true ∧ (Cond.instantiable q.1 q.2.2).before args s = true ∧ (Cond.initialized q.1).before args s = true
  | .newarray t => len = 2 ∧ (ai_ty (newarray.typeOf t) ∨ newarray.typeOf t = .long) ∧ (Cond.arrayClass (newarray.typeOf t)).before args s = true
  | .anewarray idx => len = 3 ∧ (Cond.classLink own idx r.2.2).before args s = true ∧ va_AO r.2.2 s
  | .instanceof idx => len = 3 ∧ (Cond.classLink own idx r.2.2).before args s = true
  | .checkcast idx => len = 3 ∧ (Cond.classLink own idx r.2.2).before args s = true
  | .ifCond _ off => len = 3 ∧ (pc : Int) + off = (pcs (ai_tgt r) : Int)
  | .if_icmp _ off => len = 3 ∧ (pc : Int) + off = (pcs (ai_tgt r) : Int)
  | .if_acmp _ off => len = 3 ∧ (pc : Int) + off = (pcs (ai_tgt r) : Int)
  | .ifnull off => len = 3 ∧ (pc : Int) + off = (pcs (ai_tgt r) : Int)
  | .ifnonnull off => len = 3 ∧ (pc : Int) + off = (pcs (ai_tgt r) : Int)
  | .goto off => len = 3 ∧ (pc : Int) + off = (pcs (ai_tgt r) : Int)
  | .tableswitch d lo hi offs => (pc : Int) + d = (pcs (ai_tgt r) : Int) ∧ ∀ j : Nat, (j : Int) ≤ hi - lo → ∃ off, offs[j]? = some off ∧ (pc : Int) + off = (pcs (ai_nth r (j + 1)).toNat : Int)
  | .iinc _ _ => len = 3
  | .sipush _ => len = 3
  | .bipush _ => len = 2
  | .iload _ => len = 2
  | .aload _ => len = 2
  | .istore _ => len = 2
  | .astore _ => len = 2
  | _ => len = 1
section AIS
variable {p : Program} {l : Launch} {e : Env} {R : Room} {s : State} {m : MethodId} {args : Array Value} {below : List Frame} {meth : Method} {c : Code} {Q : State → Prop}
variable {Z : ai_S} {sa : Nat → Nat} {D : va_G} {cl : List vw_C} {A : Nat → Prop} {ad0 : List Nat} {kc ks : Nat}
variable {cc : ByteArray} {pc t len : Nat} {L L' : ai_L} {S S' : List Value} {h h' : ai_H} {pcs : Nat → Nat} {zc : Nat → String × u_T} {Ts : List Cond} {ty0 : Nat → Nat → FieldType} {own : String} {G : ai_G} {i : Instr} {r : ai_R}
theorem ai_ldcSW {H : Heap} {locs : List Loc} {cells slots : Nat} {ls : Array Slot} {rest : List Value} (hexec : p.tables.exec = Jvm.exec) (hb : c.code = cc) {tx : String} {index q : Nat} (hown : s.vm.findClass own = some m.cls) (hZ : vk_R own index tx q s) (hdg : decode cc pc = .ok (.ldc_w index, 3))
    (k : W p l e R s m args below meth c H locs cells slots Q (F0 m (pc + 3) ls (.ref q :: rest))) : W p l e R s m args below meth c H locs cells slots Q (F0 m pc ls rest) := by
  intro T hT X
  obtain ⟨t, a1, b1⟩ := k T hT X
  exact ⟨t, X.ldcStringW hexec hown (text := tx) (a := q) hZ.1 hZ.2 (g := F0 m pc ls rest) rfl (by rw [hb]; exact hdg) t a1, b1⟩
theorem ai_const_cases {he : ai_const r L S h = some (t, L', S', h')} : t = 0 ∧ L' = L ∧ h' = h ∧ ((ai_nth r 0 = 1 ∧ S' = .int (Int32.ofInt (ai_nth r 1)) :: S) ∨ (ai_nth r 0 = 2 ∧ S' = .retAddr (ai_nth r 1).toNat :: S) ∨ (ai_nth r 0 = 3 ∧ S' = .float 0 :: S)) := by
  unfold ai_const at he
  split at he
  · rename_i h0
    simp only [Option.some.injEq, Prod.mk.injEq] at he
    obtain ⟨rfl, rfl, rfl, rfl⟩ := he
    exact ⟨rfl, rfl, rfl, Or.inl ⟨h0, rfl⟩⟩
  · rename_i h0
    simp only [Option.some.injEq, Prod.mk.injEq] at he
    obtain ⟨rfl, rfl, rfl, rfl⟩ := he
    exact ⟨rfl, rfl, rfl, Or.inr (Or.inl ⟨h0, rfl⟩)⟩
  · rename_i h0
    simp only [Option.some.injEq, Prod.mk.injEq] at he
    obtain ⟨rfl, rfl, rfl, rfl⟩ := he
    exact ⟨rfl, rfl, rfl, Or.inr (Or.inr ⟨h0, rfl⟩)⟩
  · cases he
theorem ai_isof_ok (hZ : ∀ k x, G.1 k = some x → ai_zc zc sa x (sa k) A s s.heap) (hcn : ∀ ci, G.2.1 ci = (zc ci).1) {nm : String} {v V : Value} {ad : List Nat} {H : Heap} {locs : List Loc} (hS : va_S A s.heap H locs) (hi : ai_isof G nm v = true) (hv : ai_v sa ad v V) : ∃ a, V = .ref a ∧ ∃ cell : Cell, H[a]? = some cell ∧ cell.vm.isStatics = false ∧ s.vm.findClass nm = some cell.cls := by
  cases v with
  | retAddr k =>
    simp only [ai_isof] at hi
    split at hi
    · rename_i ci fs hz
      refine ⟨sa k, hv, ?_⟩
      obtain ⟨hO, -⟩ := hZ k _ hz
      obtain ⟨cellV, o1, o2, o3, -⟩ := va_O.kept hO hS.2.1
      have hn : G.2.1 ci = nm := of_decide_eq_true hi
      exact ⟨cellV, o1, o2, by rw [← hn, hcn]; exact o3⟩
    · cases hi
  | _ => cases hi
set_option maxHeartbeats 1000000 in
/-- a plain instruction: what the small machine does with it the large one does -/
theorem ai_eff_ok (hx : p.tables.exec = Jvm.exec) (hb : c.code = cc) (hd : decode cc pc = .ok (i, len)) (hlk : ai_lk s args meth own sa A zc cl pcs pc i len r) (hts : ∀ w ∈ Ts, w.before args s = true) (hcl : ai_clok Ts cl ty0) (hown : s.vm.findClass own = some m.cls) (hA : ∀ q, s.heap.size ≤ q → A q) (hdf : ai_dok cl ty0 G.2.2.1)
    (hG4 : G.2.2.2 = fun ci k v => ai_fit (ty0 ci k) v) (hcn : ∀ ci, G.2.1 ci = (zc ci).1)
    (hZ : ∀ k x, G.1 k = some x → ai_zc zc sa x (sa k) A s s.heap) (hcZ : ∀ j ci fs, G.1 j = some (ai_obj ci fs) → cl[ci]? = none) (hsa : ∀ i j, (∃ x, G.1 i = some x) → (∃ x, G.1 j = some x) → sa i = sa j → i = j)
    (he : ai_eff G i r L S h = some (t, L', S', h')) (hR1 : h'.2.1 ≤ kc + R.cells) (hR2 : h'.2.2 ≤ ks + R.slots) (k : ai_W p l e R s m args below meth c Q G.1 G.2.1 sa D cl A ad0 kc ks (ai_nx pcs pc len t) L' S' h') : ai_W p l e R s m args below meth c Q G.1 G.2.1 sa D cl A ad0 kc ks pc L S h := by
  cases i with
  | aconst_null =>
    have hl9 : len = 1 := hlk
    subst hl9
    simp only [ai_eff, Option.some.injEq, Prod.mk.injEq] at he
    obtain ⟨rfl, rfl, rfl, rfl⟩ := he
    exact ai_push (v := .null) (V := .null) (fun _ => rfl) (fun H locs cells slots ls st _ k9 => lv_null hx hb hd k9) k
  | iconst n =>
    have hl9 : len = 1 := hlk
    subst hl9
    simp only [ai_eff, Option.some.injEq, Prod.mk.injEq] at he
    obtain ⟨rfl, rfl, rfl, rfl⟩ := he
    exact ai_push (v := .int (Int32.ofInt n)) (V := .int (Int32.ofInt n)) (fun _ => rfl) (fun H locs cells slots ls st _ k9 => lv_iconst hx hb hd rfl k9) k
  | bipush n =>
    have hl9 : len = 2 := hlk
    subst hl9
    simp only [ai_eff, Option.some.injEq, Prod.mk.injEq] at he
    obtain ⟨rfl, rfl, rfl, rfl⟩ := he
    exact ai_push (v := .int (Int8.ofInt n).toInt32) (V := .int (Int8.ofInt n).toInt32) (fun _ => rfl) (fun H locs cells slots ls st _ k9 => lv_bipush hx hb hd rfl k9) k
  | sipush n =>
    have hl9 : len = 3 := hlk
    subst hl9
    simp only [ai_eff, Option.some.injEq, Prod.mk.injEq] at he
    obtain ⟨rfl, rfl, rfl, rfl⟩ := he
    exact ai_push (v := .int (Int16.ofInt n).toInt32) (V := .int (Int16.ofInt n).toInt32) (fun _ => rfl) (fun H locs cells slots ls st _ k9 => lv_sipush hx hb hd rfl k9) k
  | ldc idx =>
    obtain ⟨hl9, hlk⟩ := hlk
    subst hl9
    obtain ⟨rfl, rfl, rfl, hh⟩ := ai_const_cases (he := he)
    rcases hlk with ⟨z1, z2⟩ | ⟨z1, tx, z2⟩
    · rcases hh with ⟨-, rfl⟩ | ⟨y1, -⟩ | ⟨y1, -⟩
      · exact ai_push (v := .int (Int32.ofInt (ai_nth r 1))) (V := .int (Int32.ofInt (ai_nth r 1))) (fun _ => rfl) (fun H locs cells slots ls st _ k9 => lv_ldc hx hb hown z2 hd k9) k
      · rw [z1] at y1; cases y1
      · rw [z1] at y1; cases y1
    · rcases hh with ⟨y1, -⟩ | ⟨-, rfl⟩ | ⟨y1, -⟩
      · rw [z1] at y1; cases y1
      · exact ai_push (v := .retAddr (ai_nth r 1).toNat) (V := .ref (sa (ai_nth r 1).toNat)) (fun _ => rfl) (fun H locs cells slots ls st _ k9 => va_ldcS hx hb hown z2 hd k9) k
      · rw [z1] at y1; cases y1
  | ldc_w idx =>
    obtain ⟨hl9, hlk⟩ := hlk
    subst hl9
    obtain ⟨rfl, rfl, rfl, hh⟩ := ai_const_cases (he := he)
    rcases hlk with ⟨z1, z2⟩ | ⟨z1, tx, z2⟩
    · rcases hh with ⟨-, rfl⟩ | ⟨y1, -⟩ | ⟨y1, -⟩
      · exact ai_push (v := .int (Int32.ofInt (ai_nth r 1))) (V := .int (Int32.ofInt (ai_nth r 1))) (fun _ => rfl) (fun H locs cells slots ls st _ k9 => lv_ldcw hx hb hown z2 hd k9) k
      · rw [z1] at y1; cases y1
      · rw [z1] at y1; cases y1
    · rcases hh with ⟨y1, -⟩ | ⟨-, rfl⟩ | ⟨y1, -⟩
      · rw [z1] at y1; cases y1
      · exact ai_push (v := .retAddr (ai_nth r 1).toNat) (V := .ref (sa (ai_nth r 1).toNat)) (fun _ => rfl) (fun H locs cells slots ls st _ k9 => ai_ldcSW hx hb hown z2 hd k9) k
      · rw [z1] at y1; cases y1
  | getstatic idx =>
    obtain ⟨hl9, C, n, d, V, hz, hfl, hV⟩ := hlk
    subst hl9
    obtain ⟨rfl, rfl, rfl, hh⟩ := ai_const_cases (he := he)
    have row : ∀ (H : Heap) (locs : List Loc) (cells slots : Nat) (ls : Array Slot) (st : List Value), va_S A s.heap H locs → W p l e R s m args below meth c H locs cells slots Q (F0 m (pc + 3) ls (V :: st)) → W p l e R s m args below meth c H locs cells slots Q (F0 m pc ls st) := by
      intro H locs cells slots ls st hS k9
      rcases hfl with hfl | ⟨host, hfl⟩
      · exact va_gets hx hb hz hS hown hfl (fun _ h9 => h9) hd k9
      · exact va_getsN hx hb hz hS hown hfl (fun _ h9 => h9) hd k9
    rcases hV with ⟨z1, rfl⟩ | ⟨z1, rfl⟩ | ⟨z1, hV⟩
    · rcases hh with ⟨-, rfl⟩ | ⟨y1, -⟩ | ⟨y1, -⟩
      · exact ai_push (v := .int (Int32.ofInt (ai_nth r 1))) (fun _ => rfl) row k
      · rw [z1] at y1; cases y1
      · rw [z1] at y1; cases y1
    · rcases hh with ⟨y1, -⟩ | ⟨-, rfl⟩ | ⟨y1, -⟩
      · rw [z1] at y1; cases y1
      · exact ai_push (v := .retAddr (ai_nth r 1).toNat) (fun _ => rfl) row k
      · rw [z1] at y1; cases y1
    · rcases hh with ⟨y1, -⟩ | ⟨y1, -⟩ | ⟨-, rfl⟩
      · rw [z1] at y1; cases y1
      · rw [z1] at y1; cases y1
      · exact ai_push (v := .float 0) (fun _ => hV) row k
  | iload j =>
    have hl9 : len = 2 := hlk
    subst hl9
    exact ai_iload_ok (i := j) (n := 2) (fun x H locs cells slots ls st h9 k9 => lv_iload hx hb hd h9 k9) he k
  | iload_n j =>
    have hl9 : len = 1 := hlk
    subst hl9
    exact ai_iload_ok (i := j.val) (n := 1) (fun x H locs cells slots ls st h9 k9 => lv_iload_n hx hb hd rfl h9 k9) he k
  | aload j =>
    have hl9 : len = 2 := hlk
    subst hl9
    exact ai_aload_ok (i := j) (n := 2) (fun x H locs cells slots ls st h9 k9 => lv_aload hx hb hd h9 k9) (fun H locs cells slots ls st h9 k9 => lv_aloadN hx hb hd h9 k9) he k
  | aload_n j =>
    have hl9 : len = 1 := hlk
    subst hl9
    exact ai_aload_ok (i := j.val) (n := 1) (fun x H locs cells slots ls st h9 k9 => lv_aload_n hx hb hd rfl h9 k9) (fun H locs cells slots ls st h9 k9 => lv_aload_nN hx hb hd rfl h9 k9) he k
  | istore j =>
    have hl9 : len = 2 := hlk
    subst hl9
    exact ai_istore_ok (i := j) (n := 2) (fun x H locs cells slots ls lv st h8 h9 k9 => lv_istore hx hb hd h8 h9 rfl k9) he k
  | istore_n j =>
    have hl9 : len = 1 := hlk
    subst hl9
    exact ai_istore_ok (i := j.val) (n := 1) (fun x H locs cells slots ls lv st h8 h9 k9 => lv_istore_n hx hb hd rfl h8 h9 rfl k9) he k
  | astore j =>
    have hl9 : len = 2 := hlk
    subst hl9
    exact ai_astore_ok (i := j) (n := 2) (fun x H locs cells slots ls lv st h8 h9 k9 => lv_astore hx hb hd h8 h9 rfl k9) (fun H locs cells slots ls lv st h8 h9 k9 => lv_astoreN hx hb hd h8 h9 rfl k9) he k
  | astore_n j =>
    have hl9 : len = 1 := hlk
    subst hl9
    exact ai_astore_ok (i := j.val) (n := 1) (fun x H locs cells slots ls lv st h8 h9 k9 => lv_astore_n hx hb hd rfl h8 h9 rfl k9) (fun H locs cells slots ls lv st h8 h9 k9 => lv_astore_nN hx hb hd rfl h8 h9 rfl k9) he k
  | iinc j z =>
    have hl9 : len = 3 := hlk
    subst hl9
    exact ai_inc_ok hx hb hd he k
  | iadd =>
    have hl9 : len = 1 := hlk
    subst hl9
    exact ai_bin_ok (fun x y H locs cells slots ls st k9 => lv_iadd hx hb hd k9) he k
  | isub =>
    have hl9 : len = 1 := hlk
    subst hl9
    exact ai_bin_ok (fun x y H locs cells slots ls st k9 => lv_isub hx hb hd k9) he k
  | imul =>
    have hl9 : len = 1 := hlk
    subst hl9
    exact ai_bin_ok (fun x y H locs cells slots ls st k9 => lv_imul hx hb hd k9) he k
  | iand =>
    have hl9 : len = 1 := hlk
    subst hl9
    exact ai_bin_ok (fun x y H locs cells slots ls st k9 => lv_iand hx hb hd k9) he k
  | ior =>
    have hl9 : len = 1 := hlk
    subst hl9
    exact ai_bin_ok (fun x y H locs cells slots ls st k9 => lv_ior hx hb hd k9) he k
  | ixor =>
    have hl9 : len = 1 := hlk
    subst hl9
    exact ai_bin_ok (fun x y H locs cells slots ls st k9 => lv_ixor hx hb hd k9) he k
  | ishl =>
    have hl9 : len = 1 := hlk
    subst hl9
    exact ai_bin_ok (fun x y H locs cells slots ls st k9 => lv_ishl hx hb hd k9) he k
  | ishr =>
    have hl9 : len = 1 := hlk
    subst hl9
    exact ai_bin_ok (fun x y H locs cells slots ls st k9 => lv_ishr hx hb hd k9) he k
  | iushr =>
    have hl9 : len = 1 := hlk
    subst hl9
    exact ai_bin_ok (fun x y H locs cells slots ls st k9 => lv_iushr hx hb hd rfl k9) he k
  | idiv =>
    have hl9 : len = 1 := hlk
    subst hl9
    exact ai_divs_ok (fun x y H locs cells slots ls st h9 k9 => lv_idiv hx hb hd h9 k9) he k
  | irem =>
    have hl9 : len = 1 := hlk
    subst hl9
    exact ai_divs_ok (fun x y H locs cells slots ls st h9 k9 => lv_irem hx hb hd h9 k9) he k
  | ineg =>
    have hl9 : len = 1 := hlk
    subst hl9
    exact ai_un_ok (f := fun x => .int (-x)) (fun _ _ => rfl) (fun x H locs cells slots ls st k9 => lv_ineg hx hb hd k9) he k
  | i2b =>
    have hl9 : len = 1 := hlk
    subst hl9
    exact ai_un_ok (f := fun x => .int x.toInt8.toInt32) (fun _ _ => rfl) (fun x H locs cells slots ls st k9 => lv_i2b hx hb hd rfl k9) he k
  | i2s =>
    have hl9 : len = 1 := hlk
    subst hl9
    exact ai_un_ok (f := fun x => .int x.toInt16.toInt32) (fun _ _ => rfl) (fun x H locs cells slots ls st k9 => lv_i2s hx hb hd rfl k9) he k
  | i2c =>
    have hl9 : len = 1 := hlk
    subst hl9
    exact ai_un_ok (f := fun x => .int (x.toUInt32 % 65536).toInt32) (fun _ _ => rfl) (fun x H locs cells slots ls st k9 => lv_i2c hx hb hd rfl k9) he k
  | i2l =>
    have hl9 : len = 1 := hlk
    subst hl9
    exact ai_un_ok (f := fun x => .long x.toInt64) (fun _ _ => rfl) (fun x H locs cells slots ls st k9 => lv_i2l hx hb hd rfl k9) he k
  | pop =>
    have hl9 : len = 1 := hlk
    subst hl9
    simp only [ai_eff] at he
    refine ai_dup_ok (fun v r0 r' V T ad H locs cells slots ls hc hf hv hs => ?_) he k
    cases hf
    exact ⟨T, hs, fun k9 => lv_pop hx hb hd ((ai_v_cat hv).trans hc) k9⟩
  | dup =>
    have hl9 : len = 1 := hlk
    subst hl9
    simp only [ai_eff] at he
    refine ai_dup_ok (fun v r0 r' V T ad H locs cells slots ls hc hf hv hs => ?_) he k
    cases hf
    exact ⟨V :: V :: T, ⟨hv, hv, hs⟩, fun k9 => lv_dup hx hb hd ((ai_v_cat hv).trans hc) k9⟩
  | dup_x1 =>
    have hl9 : len = 1 := hlk
    subst hl9
    simp only [ai_eff] at he
    refine ai_dup_ok (fun v r0 r' V T ad H locs cells slots ls hc hf hv hs => ?_) he k
    split at hf
    · rename_i w r1
      split at hf
      · rename_i hw
        cases hf
        obtain ⟨V2, T, rfl, hv2, hs9⟩ := ai_vs_cons hs
        exact ⟨V :: V2 :: V :: T, ⟨hv, hv2, hv, hs9⟩, fun k9 => lv_dup_x1 hx hb hd ((ai_v_cat hv).trans hc) ((ai_v_cat hv2).trans hw) k9⟩
      · cases hf
    · cases hf
  | dup_x2 =>
    have hl9 : len = 1 := hlk
    subst hl9
    simp only [ai_eff] at he
    refine ai_dup_ok (fun v r0 r' V T ad H locs cells slots ls hc hf hv hs => ?_) he k
    split at hf
    · rename_i w z r1
      split at hf
      · rename_i hw
        cases hf
        obtain ⟨V2, T, rfl, hv2, hs8⟩ := ai_vs_cons hs
        obtain ⟨V3, T, rfl, hv3, hs9⟩ := ai_vs_cons hs8
        exact ⟨V :: V2 :: V3 :: V :: T, ⟨hv, hv2, hv3, hv, hs9⟩, fun k9 => lv_dup_x2 hx hb hd ((ai_v_cat hv).trans hc) ((ai_v_cat hv2).trans hw.1) ((ai_v_cat hv3).trans hw.2) k9⟩
      · cases hf
    · cases hf
  | dup2 =>
    have hl9 : len = 1 := hlk
    subst hl9
    simp only [ai_eff] at he
    refine ai_dup_ok (fun v r0 r' V T ad H locs cells slots ls hc hf hv hs => ?_) he k
    split at hf
    · rename_i w r1
      split at hf
      · rename_i hw
        cases hf
        obtain ⟨V2, T, rfl, hv2, hs9⟩ := ai_vs_cons hs
        exact ⟨V :: V2 :: V :: V2 :: T, ⟨hv, hv2, hv, hv2, hs9⟩, fun k9 => lv_dup2_11 hx hb hd ((ai_v_cat hv).trans hc) ((ai_v_cat hv2).trans hw) k9⟩
      · cases hf
    · cases hf
  | ifCond cd off =>
    obtain ⟨hl9, ht⟩ := hlk
    subst hl9
    simp only [ai_eff] at he
    split at he
    · exact ai_if_ok hx hb hd ht he k
    · cases he
  | if_icmp cd off =>
    obtain ⟨hl9, ht⟩ := hlk
    subst hl9
    simp only [ai_eff] at he
    split at he
    · exact ai_icmp_ok hx hb hd ht he k
    · cases he
  | if_acmp cd off =>
    obtain ⟨hl9, ht⟩ := hlk
    subst hl9
    simp only [ai_eff] at he
    split at he
    · split at he
      · rename_i b hsm
        split at he
        · rename_i hz
          exact ai_acmp_ok hx hb hd ht hsa hsm hz.1 hz.2 he k
        · cases he
      · cases he
    · cases he
  | ifnull off =>
    obtain ⟨hl9, ht⟩ := hlk
    subst hl9
    simp only [ai_eff] at he
    split at he
    · split at he
      · rename_i b hsm
        exact ai_ifnull_ok hx hb hd ht hsm he k
      · cases he
    · cases he
  | ifnonnull off =>
    obtain ⟨hl9, ht⟩ := hlk
    subst hl9
    simp only [ai_eff] at he
    split at he
    · split at he
      · rename_i b hsm
        exact ai_ifnonnull_ok hx hb hd ht hsm he k
      · cases he
    · cases he
  | lcmp =>
    have hl9 : len = 1 := hlk
    subst hl9
    simp only [ai_eff] at he
    split at he
    · simp only [Option.some.injEq, Prod.mk.injEq] at he
      obtain ⟨rfl, rfl, rfl, rfl⟩ := he
      exact ai_lcmp_ok hx hb hd k
    · cases he
  | goto off =>
    obtain ⟨hl9, ht⟩ := hlk
    subst hl9
    exact ai_goto_ok hx hb hd ht he k
  | tableswitch d lo hi offs =>
    obtain ⟨ht, hof⟩ := hlk
    simp only [ai_eff] at he
    split at he
    · exact ai_tsw_ok hx hb hd ht hof he k
    · cases he
  | getfield idx =>
    obtain ⟨hl9, h1, h2⟩ := hlk
    subst hl9
    exact ai_getf_ok hx hb hd hts hcl hown hZ h1 h2 (fun j fs => hcZ j _ fs) he k
  | putfield idx =>
    obtain ⟨hl9, q, h1, h2, h3, h4⟩ := hlk
    subst hl9
    simp only [ai_eff, hG4] at he
    exact ai_putf_ok hx hb hd hts hcl hown h1 h2 h3 h4 he k
  | iaload =>
    have hl9 : len = 1 := hlk
    subst hl9
    exact ai_ald_ok hZ (ty := .int) (fun D cl tys ws q0 t0 a cA n f i H locs cells slots ls st hK hP ha ht hin k9 => va_iald hx hb hK hP q0 t0 ha ht hin hd k9) (fun a N f i H locs cells slots ls st hT hS hin k9 => va_ti hx hb hT hS hin rfl hd k9) he k
  | baload =>
    have hl9 : len = 1 := hlk
    subst hl9
    exact ai_ald_ok hZ (ty := .byte) (fun D cl tys ws q0 t0 a cA n f i H locs cells slots ls st hK hP ha ht hin k9 => va_bald hx hb hK hP q0 t0 ha ht hin hd k9) (fun a N f i H locs cells slots ls st hT hS hin k9 => va_tb hx hb hT hS hin rfl hd k9) he k
  | saload =>
    have hl9 : len = 1 := hlk
    subst hl9
    exact ai_ald_ok hZ (ty := .short) (fun D cl tys ws q0 t0 a cA n f i H locs cells slots ls st hK hP ha ht hin k9 => va_sald hx hb hK hP q0 t0 ha ht hin hd k9) (fun a N f i H locs cells slots ls st hT hS hin k9 => va_ts hx hb hT hS hin rfl hd k9) he k
  | laload =>
    have hl9 : len = 1 := hlk
    subst hl9
    exact ai_lald_ok hx hb hd he k
  | aaload =>
    have hl9 : len = 1 := hlk
    subst hl9
    exact ai_aald_ok hx hb hd hZ he k
  | iastore =>
    have hl9 : len = 1 := hlk
    subst hl9
    exact ai_ast_ok (fun _ => rfl) (fun D cl tys ws q0 t0 a cA n f i x H locs cells slots ls st hK hP hD hS ha ht hin k9 => va_iast hx hb hK hP hD hS q0 t0 ha ht hin hd k9) he k
  | bastore =>
    have hl9 : len = 1 := hlk
    subst hl9
    exact ai_ast_ok (fun x => by rw [vp_nar_byte]; exact pk_fb x) (fun D cl tys ws q0 t0 a cA n f i x H locs cells slots ls st hK hP hD hS ha ht hin k9 => va_bast hx hb hK hP hD hS q0 t0 ha ht hin hd k9) he k
  | sastore =>
    have hl9 : len = 1 := hlk
    subst hl9
    exact ai_ast_ok (fun x => by rw [vp_nar_short]; exact pk_fs x) (fun D cl tys ws q0 t0 a cA n f i x H locs cells slots ls st hK hP hD hS ha ht hin k9 => va_sast hx hb hK hP hD hS q0 t0 ha ht hin hd k9) he k
  | lastore =>
    have hl9 : len = 1 := hlk
    subst hl9
    exact ai_last_ok hx hb hd he k
  | aastore =>
    have hl9 : len = 1 := hlk
    subst hl9
    exact ai_aast_ok hx hb hd hZ hcn he k
  | arraylength =>
    have hl9 : len = 1 := hlk
    subst hl9
    exact ai_alen_ok hx hb hd hZ he k
  | newarray t0 =>
    obtain ⟨hl9, h1, h2⟩ := hlk
    subst hl9
    exact ai_newa_ok hx hb hd hA h1 h2 he hR1 hR2 k
  | anewarray idx =>
    obtain ⟨hl9, h1, h2⟩ := hlk
    subst hl9
    exact ai_newq_ok hx hb hd hown hA h1 h2 he hR1 hR2 k
  | new idx =>
    obtain ⟨hl9, q, h1, h2, h3, h4⟩ := hlk
    subst hl9
    exact ai_new_ok hx hb hd hts hcl hown hA h1 hdf h2 h3 h4 he hR1 hR2 k
  | instanceof idx =>
    obtain ⟨hl9, h1⟩ := hlk
    subst hl9
    simp only [ai_eff] at he
    split at he
    · split at he
      · rename_i v S hv
        simp only [Option.some.injEq, Prod.mk.injEq] at he
        obtain ⟨rfl, rfl, rfl, rfl⟩ := he
        intro ad tys ws H locs cells slots ls st ha hl hs
        obtain ⟨V, T, rfl, hv2, hs9⟩ := ai_vs_cons hs
        obtain ⟨a, rfl, hc⟩ := ai_isof_ok hZ hcn ha.2.2.2.2.2.2.2 hv hv2
        exact va_instE hx hb hown h1 hc hd (k ad tys ws H locs cells slots ls (.int 1 :: T) ha hl ⟨rfl, hs9⟩)
      · cases he
    · cases he
  | checkcast idx =>
    obtain ⟨hl9, h1⟩ := hlk
    subst hl9
    simp only [ai_eff] at he
    split at he
    · split at he
      · rename_i v S hv
        simp only [Option.some.injEq, Prod.mk.injEq] at he
        obtain ⟨rfl, rfl, rfl, rfl⟩ := he
        intro ad tys ws H locs cells slots ls st ha hl hs
        obtain ⟨V, T, rfl, hv2, hs9⟩ := ai_vs_cons hs
        have hv3 := hv2
        obtain ⟨a, rfl, hc⟩ := ai_isof_ok hZ hcn ha.2.2.2.2.2.2.2 hv hv2
        exact va_castE hx hb hown h1 hc hd (k ad tys ws H locs cells slots ls (.ref a :: T) ha hl ⟨hv3, hs9⟩)
      · cases he
    · cases he
  | _ => cases he
end AIS
end
section
/-! CALLS: a method of ours returns or throws; either way the caller stands again. -/
/-- how an invocation ends: the tables are warmer, of the old cells only the slots L have changed, at most mc cells of ms slots are new -/
def ai_end (st t : State) (L : List Loc) (mc ms : Nat) : Prop := st.WarmedH t.vm ∧ st.sameButNew ({ t with vm := st.vm } : State) L mc ms
section AIC
variable {l : Launch} {R : Room} {p : Program} {e : Env} {below : List Frame} {s : State} {m : MethodId} {sargs : Array Value} {meth : Method} {c : Code} {U : State} {Ls : List Loc} {c0 s0 : Nat}
theorem ai_invoke (X : Stand p l e R s m sargs below meth c U Ls c0 s0) {y : MethodName} {S : Spec} {P : Array Value → State → Prop} {Q : Array Value → State → Outcome → State → Prop} (hM : MetFree l y S P (fun _ _ _ _ _ => True) Q)
    {g : JFrame} {ig : Instr} {len W9 : Nat} (hg : g.method = m) (hsize : g.locals.size = c.maxLocals) (hdg : decode c.code g.pc = .ok (ig, len)) (hW : 2 * g.monitorRoom + (g.stack.map fun v => v.category).sum ≤ W9)
    {mk : MethodId} (hn : U.methodNamed? y = some mk) {a : Array Value} {methY : Method} {cY : Code} (hmY : U.vm.method? mk = some methY) (hcY : methY.code = some cY)
    (hframes : S.room.frames + 1 ≤ R.frames) (hlocals : W9 + (cY.maxLocals + 11) + S.room.locals ≤ R.locals) (hcells : c0 + S.room.cells ≤ R.cells) (hslots : s0 + S.room.slots ≤ R.slots)
    (hinit : (Cond.initialized y.cls).before a U = true) (hpre : S.pre.before a U = true) (hP : P a (U.calling g mk a)) :
    ∃ (o : Outcome) (t : State), Steps p.tables e below (doInvoke e (U.setTop g) [] mk a).1 t ∧ Ended t (.java g :: U.frames.tail) o ∧ Q a (U.calling g mk a) o t := by
  obtain ⟨kY, hkY, -⟩ := className_of_methodNamed hn
  have hinitY : kY.init = .initialized := Cond.initialized_spec (findClass_of_methodNamed hn) hkY hinit
  have h : At U g.method c below := by rw [hg]; exact X.here
  have happ : S.appliesLoose y e.platform (U.calling g mk a) = true :=
    Spec.appliesLoose_calling (g := g) h hdg hn hkY hinitY (X.room_calling (g := g) (R' := S.room) hsize hmY hcY hframes (by omega) hcells hslots) hpre
  obtain ⟨mid, hmid⟩ := h.above
  have hfr : (U.setTop g).frames = (.java g :: mid) ++ below := by rw [State.frames_setTop' g h.top, hmid]; rfl
  obtain ⟨o, s₂, hsteps, -, hend, hq⟩ := Steps.callFree hM p X.admits X.cas X.clock (acts := []) hfr happ hP trivial
  rw [State.frames_setTop' g h.top] at hend
  exact ⟨o, s₂, hsteps, hend, hq⟩
/-- the caller's state behind the call, but for its top frame -/
def ai_behind (U t : State) : State := ({ U with heap := t.heap, slotsUsed := t.slotsUsed } : State).setVm t.vm
theorem ai_stands (X : Stand p l e R s m sargs below meth c U Ls c0 s0) {g : JFrame} {mk : MethodId} {a : Array Value} {t : State} {L : List Loc} {mc ms : Nat} (hE : ai_end (U.calling g mk a) t L mc ms) :
    Stand p l e R s m sargs below meth c (ai_behind U t) (Ls ++ L) (c0 + mc) (s0 + ms) := by
  obtain ⟨hW₂, e2, q2, q3, q4, q5, q6⟩ := hE
  have hW' : U.WarmedH t.vm := hW₂
  obtain ⟨g₀, hg0⟩ := Option.isSome_iff_exists.mp X.here.top
  obtain ⟨r, hr⟩ := State.topJava?_eq_some.mp hg0
  have hsame : U.sameButNew ({ U with heap := t.heap, slotsUsed := t.slotsUsed } : State) L mc ms := by
    refine ⟨?_, q2, q3, q4, q5, q6⟩
    obtain ⟨th, ht, -⟩ := State.frames_cons hr
    show ({ U with heap := t.heap, slotsUsed := t.slotsUsed } : State) = { U.setFrames U.frames with heap := t.heap, slotsUsed := t.slotsUsed }
    rw [State.setFrames_self ht]
  exact ⟨X.admits, X.cas, X.clock, X.frames, X.room, X.hears, X.method, X.code, (X.here.setHeapUsed t.heap t.slotsUsed).setVm hW'.alike, X.tail, State.WarmedH.trans X.warmed hW', X.limits, X.bytes, X.same.trans (hsame.setVm s.vm)⟩
theorem ai_whole {g : JFrame} {mk : MethodId} {a : Array Value} {t : State} {L : List Loc} {mc ms : Nat} (hE : ai_end (U.calling g mk a) t L mc ms) : t = ({ (U.calling g mk a).setFrames t.frames with heap := t.heap, slotsUsed := t.slotsUsed } : State).setVm t.vm := by
  have e2 := hE.2.1
  have h9 : t = ({ t with vm := (U.calling g mk a).vm } : State).setVm t.vm := rfl
  rw [e2] at h9
  exact h9
theorem ai_returned (X : Stand p l e R s m sargs below meth c U Ls c0 s0) {g : JFrame} {ig : Instr} {len : Nat} (hg : g.method = m) (hdg : decode c.code g.pc = .ok (ig, len)) {mk : MethodId} {a : Array Value} {t : State} {L : List Loc} {mc ms : Nat} {v : Option Value} (hE : ai_end (U.calling g mk a) t L mc ms) (hend : Ended t (.java g :: U.frames.tail) (.returned v)) :
    t = (ai_behind U t).setTop { g with pc := g.pc + len, stack := v.toList ++ g.stack } := by
  have h : At U g.method c below := by rw [hg]; exact X.here
  have e3 := ai_whole hE
  have hW' : U.WarmedH t.vm := hE.1
  obtain ⟨c₂, i₂, len₂, hc₂, hd₂, hf₂⟩ := hend
  have hcc : c₂ = c := by
    have h1 : t.code? g.method = U.code? g.method := by
      rw [State.code?_eq, State.code?_eq, hW'.alike.method?]
    exact Option.some.inj (hc₂.symm.trans (h1.trans h.code))
  subst hcc
  have hlen : len₂ = len := by rw [hdg] at hd₂; cases hd₂; rfl
  subst hlen
  obtain ⟨g₀, hg0⟩ := Option.isSome_iff_exists.mp h.top
  obtain ⟨r, hr⟩ := State.topJava?_eq_some.mp hg0
  have hr' : (ai_behind U t).frames = .java g₀ :: r := hr
  refine e3.trans ?_
  rw [hf₂, State.calling_eq h.top, State.setFrames_setFrames, State.setTop_of_frames _ hr', hr]
  rfl
theorem ai_thrown (X : Stand p l e R s m sargs below meth c U Ls c0 s0) {g : JFrame} (hg : g.method = m) {mk : MethodId} {a : Array Value} {t : State} {L : List Loc} {mc ms : Nat} {q : Addr} (hE : ai_end (U.calling g mk a) t L mc ms) (hend : Ended t (.java g :: U.frames.tail) (.threw q)) :
    t = ((ai_behind U t).setTop g).pushFrame (.throwing q) := by
  have h : At U g.method c below := by rw [hg]; exact X.here
  have e3 := ai_whole hE
  have hf₂ : t.frames = .throwing q :: .java g :: U.frames.tail := hend
  obtain ⟨g₀, hg0⟩ := Option.isSome_iff_exists.mp h.top
  obtain ⟨r, hr⟩ := State.topJava?_eq_some.mp hg0
  have hr' : (ai_behind U t).frames = .java g₀ :: r := hr
  refine e3.trans ?_
  rw [hf₂, State.calling_eq h.top, State.setFrames_setFrames, State.pushFrame, State.frames_setTop _ hr', State.setTop_of_frames _ hr', State.setFrames_setFrames, hr]
  rfl
end AIC
end
section
/-! THE INVOKING INSTRUCTION: from the caller's frame into the callee. -/
/-- the code of a method, with the table of what it catches -/
def ai_cd (U : State) (y : MethodName) (bytes : ByteArray) (maxL : Nat) (ret : Option FieldType) (hh : List (Nat × Nat × Nat × Nat)) : Prop :=
  ∃ m meth c, U.methodNamed? y = some m ∧ U.vm.method? m = some meth ∧ meth.code = some c ∧ c.code = bytes ∧ c.maxLocals = maxL ∧ c.exceptionTable.toList.map (fun h => (h.startPc, h.endPc, h.handlerPc, h.catchType)) = hh ∧ meth.sig.returnType = ret ∧ meth.locks = false ∧ parseMethodDescriptor y.desc = some meth.sig
/-- the word that says so -/
def ai_cw (y : MethodName) (bytes : ByteArray) (maxL : Nat) (ret : Option FieldType) (hh : List (Nat × Nat × Nat × Nat)) : Cond := match hh with
  | [] => .code y bytes maxL ret
  | _ :: _ => .codeWith y bytes maxL ret hh
theorem ai_cd_of {y : MethodName} {bytes : ByteArray} {maxL : Nat} {ret : Option FieldType} {hh : List (Nat × Nat × Nat × Nat)} {args : Array Value} {U : State} (h : (ai_cw y bytes maxL ret hh).before args U = true) : ai_cd U y bytes maxL ret hh := by
  cases hh with
  | nil =>
    have h : (Cond.code y bytes maxL ret).before args U = true := h
    obtain ⟨m, hn⟩ := Cond.code_named h
    obtain ⟨meth, c, h1, h2, h3, h4, h5, h6, h7, h8⟩ := Cond.code_spec hn h
    refine ⟨m, meth, c, hn, h1, h2, h3, h4, ?_, h5, h6, h8⟩
    have h0 : c.exceptionTable.size = 0 := by simpa [Array.isEmpty] using h7
    have h9 : c.exceptionTable.toList = [] := List.eq_nil_of_length_eq_zero (by simpa using h0)
    rw [h9]; rfl
  | cons x t =>
    have h : (Cond.codeWith y bytes maxL ret (x :: t)).before args U = true := h
    obtain ⟨m, meth, c, h0, h1, h2, h3, h4, h5, h6, h7, h8⟩ := Cond.codeWith_spec h
    exact ⟨m, meth, c, h0, h1, h2, h3, h4, h5, h6, h7, h8⟩
section AIE
variable {p : Program} {l : Launch} {e : Env} {R : Room} {s : State} {m : MethodId} {args : Array Value} {below : List Frame} {meth : Method} {c : Code} {T : State} {locs : List Loc} {cells slots : Nat}
/-- the machine enters the method y with the arguments a; what is left on the caller's stack: rest -/
def ai_enters (p : Program) (l : Launch) (e : Env) (R : Room) (s : State) (m : MethodId) (args : Array Value) (below : List Frame) (meth : Method) (c : Code) (T : State) (locs : List Loc) (cells slots : Nat) (g : JFrame) (rest : List Value) (y : MethodName) (a : Array Value) : Prop :=
  ∃ (vm₁ : Vm) (mk : MethodId), s.WarmedH vm₁ ∧ Stand p l e R s m args below meth c (T.setVm vm₁) locs cells slots ∧ (T.setVm vm₁).methodNamed? y = some mk ∧ ∀ target, Steps p.tables e below (doInvoke e ((T.setVm vm₁).setTop { g with stack := rest }) [] mk a).1 target → Steps p.tables e below (T.setTop g) target
variable {own C : String} {index : Nat} {x y : MethodName} {bytes : ByteArray} {maxL : Nat} {ret : Option FieldType} {hh : List (Nat × Nat × Nat × Nat)}
theorem ai_enterV (X : Stand p l e R s m args below meth c T locs cells slots) (hexec : p.tables.exec = Jvm.exec)
    (hown : s.vm.findClass own = some m.cls) (hlink : (Cond.methodLink own index y).before args s = true) (hinst : (Cond.instanceMethod y).before args s = true) (hsel : (Cond.selects C y y).before args s = true)
    (hcode : ai_cd s y bytes maxL ret hh) (hy : y.cls ≠ "java/lang/invoke/MethodHandle" ∧ y.cls ≠ "java/lang/invoke/VarHandle")
    {b : Addr} {cellB : Cell} (hcell : T.heap[b]? = some cellB) (hobj : cellB.vm.isStatics = false) (hcls : s.vm.findClass C = some cellB.cls)
    {g : JFrame} (hg : g.method = m) {argsL rest : List Value} (hlen : ∀ sig, parseMethodDescriptor y.desc = some sig → argsL.length = sig.parameters.length)
    (hstack : g.stack = argsL.reverse ++ .ref b :: rest) (hdg : decode c.code g.pc = .ok (.invokevirtual index, 3)) :
    ai_enters p l e R s m args below meth c T locs cells slots g rest y (Value.ref b :: argsL).toArray := by
  obtain ⟨mk, methM, hnamed, hmethM, hstM, habM⟩ := Cond.instanceMethod_spec hinst
  obtain ⟨mk', methM', cM, hn', hmethM', -, -, -, -, -, -, hsigM⟩ := hcode
  cases hnamed.symm.trans hn'
  cases hmethM.symm.trans hmethM'
  obtain ⟨c2, r2, m2, q1, q2, q3, q4, kP, hkP, hkPi⟩ := Cond.selects_spec hsel
  cases hcls.symm.trans q1
  cases (State.methodFound?_of_named hnamed hy).symm.trans q2
  cases hnamed.symm.trans q3
  have hselP : selectMethod e.platform s.vm cellB.cls mk = .method mk := by rw [Launch.admits_selectMethod X.admits]; exact q4
  obtain ⟨vm₁, X₁, hstep₁⟩ := X.invokevirtual hexec hown hlink hnamed hmethM hstM hkP hkPi hy (a := b) (cell := cellB) hcell
    (fun z h => by rw [h] at hobj; cases hobj) hselP hmethM habM hkP hkPi (g := g) hg (argsL := argsL) (rest := rest) (hlen _ hsigM) hstack hdg
  exact ⟨vm₁, mk, X₁.warmed, X₁, X₁.named hnamed, fun target h => hstep₁ _ fun acts => by rw [doInvoke_state]; exact h⟩
theorem ai_enterU {owner : String} (X : Stand p l e R s m args below meth c T locs cells slots) (hexec : p.tables.exec = Jvm.exec)
    (hown : s.vm.findClass own = some m.cls) (hlink : (Cond.methodLink own index x).before args s = true) (hsame : (Cond.sameMethod x.cls owner x.name x.desc).before args s = true)
    (hd0 : va_Decl s ⟨owner, x.name, x.desc⟩) (howner : owner ≠ "java/lang/invoke/MethodHandle" ∧ owner ≠ "java/lang/invoke/VarHandle")
    (hsel : (Cond.selects C x y).before args s = true) (hinst : (Cond.instanceMethod y).before args s = true)
    {b : Addr} {cellB : Cell} (hcell : T.heap[b]? = some cellB) (hobj : cellB.vm.isStatics = false) (hcls : s.vm.findClass C = some cellB.cls)
    {g : JFrame} (hg : g.method = m) {argsL rest : List Value} (hlen : ∀ sig, parseMethodDescriptor x.desc = some sig → argsL.length = sig.parameters.length)
    (hstack : g.stack = argsL.reverse ++ .ref b :: rest) (hdg : decode c.code g.pc = .ok (.invokevirtual index, 3)) :
    ai_enters p l e R s m args below meth c T locs cells slots g rest y (Value.ref b :: argsL).toArray := by
  obtain ⟨r0, r, hn, hrm, hstR, hsigR⟩ := hd0
  obtain ⟨cn, ck, r1, hcn, hck, hni, hf, hn1⟩ := Cond.sameMethod_found hsame
  cases hn.symm.trans hn1
  obtain ⟨mk, methM, hnamed, hmethM, -, habM⟩ := Cond.instanceMethod_spec hinst
  obtain ⟨c2, r2, m2, q1, q2, q3, q4, kP, hkP, hkPi⟩ := Cond.selects_spec hsel
  cases hcls.symm.trans q1
  cases hf.symm.trans q2
  cases hnamed.symm.trans q3
  have hselP : selectMethod e.platform s.vm cellB.cls r0 = .method mk := by rw [Launch.admits_selectMethod X.admits]; exact q4
  obtain ⟨vm₁, X₁, hstep₁⟩ := X.invokevirtualUp hexec hown hlink hsame howner hn hrm hstR (a := b) (cell := cellB) hcell
    (fun z h => by rw [h] at hobj; cases hobj) hselP hmethM habM hkP hkPi (g := g) hg (argsL := argsL) (rest := rest) (hlen _ hsigR) hstack hdg
  exact ⟨vm₁, mk, X₁.warmed, X₁, X₁.named hnamed, fun target h => hstep₁ _ fun acts => by rw [doInvoke_state]; exact h⟩
theorem ai_enterS (X : Stand p l e R s m args below meth c T locs cells slots) (hexec : p.tables.exec = Jvm.exec)
    (hown : s.vm.findClass own = some m.cls) (hlink : (Cond.methodLink own index y).before args s = true) (hstat : (Cond.static y).before args s = true) (hinit : (Cond.initialized y.cls).before args s = true)
    (hcode : ai_cd s y bytes maxL ret hh) (hy : y.cls ≠ "java/lang/invoke/MethodHandle" ∧ y.cls ≠ "java/lang/invoke/VarHandle")
    {g : JFrame} (hg : g.method = m) {argsL rest : List Value} (hlen : ∀ sig, parseMethodDescriptor y.desc = some sig → argsL.length = sig.parameters.length)
    (hstack : g.stack = argsL.reverse ++ rest) (hdg : decode c.code g.pc = .ok (.invokestatic index, 3)) :
    ai_enters p l e R s m args below meth c T locs cells slots g rest y argsL.toArray := by
  obtain ⟨mk, methM, cM, hnamed, hmethM, -, -, -, -, -, -, hsigM⟩ := hcode
  have hstatic : methM.isStatic = true := Cond.static_spec hnamed hmethM hstat
  obtain ⟨kP, hkP, -⟩ := className_of_methodNamed hnamed
  have hinitP : kP.init = .initialized := Cond.initialized_spec (findClass_of_methodNamed hnamed) hkP hinit
  obtain ⟨vm₁, X₁, hstep₁⟩ := X.invokestatic hexec hown hlink hnamed hmethM hstatic hkP hinitP hy (g := g) hg (argsL := argsL) (rest := rest) (hlen _ hsigM) hstack hdg
  exact ⟨vm₁, mk, X₁.warmed, X₁, X₁.named hnamed, fun target h => hstep₁ _ fun acts => by rw [doInvoke_state]; exact h⟩
theorem ai_enterI (X : Stand p l e R s m args below meth c T locs cells slots) (hexec : p.tables.exec = Jvm.exec)
    (hown : s.vm.findClass own = some m.cls) (hy1 : y.name = "<init>") (hlink : (Cond.methodLink own index y).before args s = true ∨ ∃ host, (Cond.methodLinkNest own index y host).before args s = true) (hinst : (Cond.instanceMethod y).before args s = true)
    (hcode : (Cond.code y bytes maxL none).before args s = true) (hy : y.cls ≠ "java/lang/invoke/MethodHandle" ∧ y.cls ≠ "java/lang/invoke/VarHandle")
    {g : JFrame} (hg : g.method = m) {a : Addr} {argsL rest : List Value} (hlen : ∀ sig, parseMethodDescriptor y.desc = some sig → argsL.length = sig.parameters.length)
    (hstack : g.stack = argsL.reverse ++ .ref a :: rest) (hdg : decode c.code g.pc = .ok (.invokespecial index, 3)) :
    ai_enters p l e R s m args below meth c T locs cells slots g rest y (Value.ref a :: argsL).toArray := by
  subst hg
  have hpl : e.platform.magicAccessors = ({} : Platform).magicAccessors := by rw [X.admits.platform]
  rcases hlink with hlink | ⟨host, hlink⟩
  · obtain ⟨mk, methM, cM, kP, vm₁, hnamed, hmethM, hcodeM, -, hlocalsM, -, hkP, -, hW₁, hstep₁⟩ := Steps.initColdArgs (e := e) X.here hexec X.warmed hpl hown hy1 hy hlink hinst hcode (f := g) rfl hlen hstack hdg
    have X₁ := X.noted hW₁
    exact ⟨vm₁, mk, X₁.warmed, X₁, X₁.named hnamed, fun target h => hstep₁ _ fun acts => by rw [doInvoke_state]; exact h⟩
  · obtain ⟨mk, methM, cM, kP, vm₁, hnamed, hmethM, hcodeM, -, hlocalsM, -, hkP, -, hW₁, hstep₁⟩ := Steps.initColdArgsNest (e := e) X.here hexec X.warmed hpl hown hy1 hy hlink hinst hcode (f := g) rfl hlen hstack hdg
    have X₁ := X.noted hW₁
    exact ⟨vm₁, mk, X₁.warmed, X₁, X₁.named hnamed, fun target h => hstep₁ _ fun acts => by rw [doInvoke_state]; exact h⟩
end AIE
end
section
/-! AN EXCEPTION OVER A FRAME: caught by the one row of the method's table, or let out. (The road is the library's own: the search through the table, the step that it ends in; said here for a table of one row, whose class may still be unresolved.) -/
section AIX
variable {p : Program} {l : Launch} {e : Env} {R : Room} {s : State} {m : MethodId} {args : Array Value} {below : List Frame} {meth : Method} {c : Code} {T : State} {locs : List Loc} {cells slots : Nat}
theorem ai_search {S : State} {f : JFrame} {q : Addr} {x : ExceptionTableEntry} {k : ClassId} {cell : Cell} {Qh : Handler → Pre} {E : CtlPost} {d : Bool} {acts : List Action} {meth : Method} {code : Code} (hm : S.vm.method? f.method = some meth) (hc : meth.code = some code) (htab : code.exceptionTable.toList = [x])
    (hx : covers x f.pc = true) (h0 : x.catchType ≠ 0) (hl : S.vm.ClassLinks e.platform f.method.cls x.catchType k) (hcell : S.heap[q]? = some cell) (hobj : ∀ z, cell.vm ≠ .statics z)
    (hk : ∃ z, S.vm.classes[cell.cls]? = some z) (hk2 : ∃ z, S.vm.classes[k]? = some z) (hfit : S.vm.assignable cell.cls k = true) :
    wp (findHandler f q) Qh E e d acts S ↔ Qh (.found x.handlerPc) d acts (S.setVm (S.vm.noted f.method.cls x.catchType (.cls k))) := by
  rw [W.findHandler_eq hm hc, htab]
  simp only [covers] at hx
  obtain ⟨ha, ht⟩ := (resolveClass_links e.toSetting hl).op (op := VmOp.resolveClass f.method.cls x.catchType) rfl
  have hal : S.vm.Alike (S.vm.noted f.method.cls x.catchType (.cls k)) := (Vm.Alike.refl S.vm).noted _ _ _
  obtain ⟨z1, hz1⟩ := hk
  obtain ⟨z2, hz2⟩ := hk2
  obtain ⟨y1, hy1, -⟩ := hal.2.2 _ _ hz1
  obtain ⟨y2, hy2, -⟩ := hal.2.2 _ _ hz2
  have hfit' : (S.vm.noted f.method.cls x.catchType (.cls k)).assignable cell.cls k = true := by rw [hal.assignable]; exact hfit
  simp [findHandler.go, hx, h0, ha, ht, hcell, hobj, hy1, hy2, hfit', VmOp.dirties, VmOp.acts]
theorem ai_caught (X : Stand p l e R s m args below meth c T locs cells slots) (q : Addr) {g : JFrame} (hg : g.method = m) {own name : String} (hown : s.vm.findClass own = some m.cls) {x : ExceptionTableEntry} (htab : c.exceptionTable.toList = [x]) (hx : covers x g.pc = true) (h0 : x.catchType ≠ 0)
    (hlink : (Cond.classLink own x.catchType name).before args s = true) {cell : Cell} (hcell : T.heap[q]? = some cell) (hv : cell.vm = .none) (hcl : s.vm.findClass name = some cell.cls) :
    ∃ vm', Stand p l e R s m args below meth c (T.setVm vm') locs cells slots ∧ ∀ target, Steps p.tables e below ((T.setVm vm').setTop { g with pc := x.handlerPc, stack := [.ref q] }) target → Steps p.tables e below ((T.setTop g).pushFrame (.throwing q)) target := by
  have hpl : e.platform.magicAccessors = ({} : Platform).magicAccessors := by rw [X.admits.platform]
  obtain ⟨c', hc', hlk⟩ := Cond.classLink_spec hown hlink e.platform hpl
  cases hcl.symm.trans hc'
  obtain ⟨dk, _, _, kt, hd, _, _, _, _, hkt, _, hopen⟩ := hlk.here
  have hlk0 := X.warmed.classLinks hlk
  have hW' : s.WarmedH (T.vm.noted m.cls x.catchType (.cls cell.cls)) := X.warmed.noted hd hopen (State.rightAt_cls hlk)
  obtain ⟨kt', hkt', -⟩ := X.warmed.alike.2.2 _ _ hkt
  refine ⟨_, X.noted hW', fun target hrest => ?_⟩
  subst hg
  have h : At T g.method c below := X.here
  obtain ⟨hgo, hw⟩ := h.throwing q
  refine Steps.head hgo hw ?_
  have hfind : ∀ (Qh : Handler → Pre) (E : CtlPost) (d : Bool) (acts : List Action), wp (findHandler g q) Qh E e d acts ((T.setTop g).pushFrame (.throwing q)) ↔ Qh (.found x.handlerPc) d acts (((T.setTop g).pushFrame (.throwing q)).setVm (T.vm.noted g.method.cls x.catchType (.cls cell.cls))) :=
    fun Qh E d acts => ai_search (S := (T.setTop g).pushFrame (.throwing q)) (meth := meth) (code := c) X.method' X.code htab hx h0 hlk0 hcell (fun z hz => by rw [hv] at hz; cases hz) ⟨kt', hkt'⟩ ⟨kt', hkt'⟩ (va_asg _ _)
  have hstep : (stepThrowing e ((T.setTop g).pushFrame (.throwing q)) q (.java g :: T.frames.tail)).Is ((((T.setTop g).pushFrame (.throwing q)).setVm (T.vm.noted g.method.cls x.catchType (.cls cell.cls))).setFrames (.java { g with pc := x.handlerPc, stack := [.ref q] } :: T.frames.tail)) [] := by
    simp only [stepThrowing, searchFrame, vmDo]
    generalize hr : Sem.go _ e false [] ((T.setTop g).pushFrame (.throwing q)) = res
    obtain ⟨as, rfl, ha⟩ := Sem.eq_ok_of hr (a := Handler.found x.handlerPc) (s' := ((T.setTop g).pushFrame (.throwing q)).setVm (T.vm.noted g.method.cls x.catchType (.cls cell.cls))) (acts' := []) (by simp [hfind _ _ _ _])
    exact ⟨rfl, ha⟩
  rw [stepThread_throwing (frames_entered h.top _), hstep.1]
  obtain ⟨g₀, hg0⟩ := Option.isSome_iff_exists.mp h.top
  obtain ⟨r, hr⟩ := State.topJava?_eq_some.mp hg0
  have hr' : (T.setVm (T.vm.noted g.method.cls x.catchType (.cls cell.cls))).frames = .java g₀ :: r := hr
  rw [State.setTop_of_frames _ hr'] at hrest
  have hsw : ∀ (u : State) (vm' : Vm) (F F2 : List Frame), ((u.setFrames F).setVm vm').setFrames F2 = (u.setVm vm').setFrames F2 := by
    intro u vm' F F2
    have h1 : (u.setFrames F).setVm vm' = (u.setVm vm').setFrames F := rfl
    rw [h1, State.setFrames_setFrames]
  rw [hr, List.tail_cons, State.pushFrame, hsw, State.setTop_of_frames _ hr, hsw]
  exact hrest
end AIX
end
section
/-! WORDS THAT STAY: what the tables say stays true while they are warmed. -/
def ai_st (w : Cond) : Bool := match w with
  | .arrayClass _ => true
  | .fieldLinkNest .. => true
  | .methodLinkNest .. => true
  | w => w.onTables && w.keepsFace
theorem ai_st_at {w : Cond} (hw : ai_st w = true) {args a' : Array Value} {s U : State} (hW : s.WarmedH U.vm) (h : w.before args s = true) : w.before a' U = true := by
  have key : (w.onTables && w.keepsFace) = true → w.before a' U = true := by
    intro hk
    rw [Bool.and_eq_true] at hk
    have h1 : w.before args (s.setVm U.vm) = true := Cond.before_shiftedFace (State.Shifted.of_warmed hW) w hk.2 h
    exact va_tabs hk.1 (rfl : (s.setVm U.vm).vm = U.vm) h1
  cases w with
  | arrayClass ty => exact word_at hW (Or.inr ⟨ty, rfl⟩) h
  | fieldLinkNest a i b n d h0 => exact va_Nw.use (A := a') rfl (va_Nw.warmF hW (va_Nw.of rfl h))
  | methodLinkNest a i x h0 => exact va_Nw.use (A := a') rfl (va_Nw.warmM hW (va_Nw.of rfl h))
  | _ => exact key hw
/-- a word that speaks of cells that nobody changes: it holds wherever the tables are alike and the heap differs inside A alone -/
def ai_stay (w : Cond) (A : Nat → Prop) (U : State) (H : Heap) : Prop := ∀ (U' : State) (a : Array Value), U.vm.Alike U'.vm → (∀ q : Nat, q < H.size → ¬ A q → U'.heap[q]? = H[q]?) → w.before a U' = true
theorem ai_stay_moved {w : Cond} {A : Nat → Prop} {u U : State} {H : Heap} (hvm : u.vm.Alike U.vm) (h : ai_stay w A u H) : ai_stay w A U H := fun U' a h1 h2 => h U' a (hvm.trans h1) h2
theorem ai_stay_kept {w : Cond} {A : Nat → Prop} {U : State} {H H1 : Heap} (hz : H.size ≤ H1.size) (h : ai_stay w A U H) (hq : ∀ a : Nat, a < H.size → ¬ A a → H1[a]? = H[a]?) : ai_stay w A U H1 := fun U' a h1 h2 => h U' a h1 (fun q h3 h4 => (h2 q (by omega) h4).trans (hq q h3 h4))
theorem ai_stay_narrow {w : Cond} {A B : Nat → Prop} {U : State} {H : Heap} (h : ai_stay w A U H) (hAB : ∀ q, B q → A q) : ai_stay w B U H := fun U' a h1 h2 => h U' a h1 (fun q h3 h4 => h2 q h3 (fun z => h4 (hAB q z)))
theorem ai_stay_here {w : Cond} {A : Nat → Prop} {U : State} {a : Array Value} (h : ai_stay w A U U.heap) : w.before a U = true := h U a (Vm.Alike.refl _) (fun _ _ _ => rfl)
/-- where a static of the machine's own lies -/
theorem ai_stay_lays {args : Array Value} {s : State} {C n d : String} {A : Nat → Prop} (h : (Cond.laysStatic C n d).before args s = true) (hA : ∀ a : Nat, a < s.heap.size → ¬ A a) : ai_stay (.laysStatic C n d) A s s.heap := by
  intro U' a hvm hq
  obtain ⟨c, k, i, f, b, cell, h1, h2, h3, h4, h5, h6, h7, h8, h9⟩ := Cond.laysStatic_spec h
  obtain ⟨k', hi', he⟩ := State.fieldFound?_setVm hvm h2
  have hb := (Array.getElem?_eq_some_iff.mp h5).1
  show (Cond.laysStatic C n d).holds a U' none U' [] = true
  exact Cond.laysStatic_of (by rw [hvm.findClass]; exact h1) hi' h3 (by rw [he]; exact h4) (by rw [hq b hb (hA b hb)]; exact h5) h6 h7 h8 (by rw [he]; exact h9)
theorem ai_isRef_of {C n d : String} {v : Value} {A : Nat → Prop} {U : State} {H : Heap} (h : va_Z C n d v A U H) (hv : v.isRef = true) : ai_stay (.isRef (.static C n d)) A U H := by
  intro U' a hvm hq
  obtain ⟨cf, kf, fi, f, b, cell, h1, h2, h3, h4, h5, h6, h7, h8⟩ := va_Z.moved hvm h
  have h5' : U'.heap[b]? = some cell := by rw [hq b (Array.getElem?_eq_some_iff.mp h5).1 h8]; exact h5
  have he : (Term.static C n d).eval a U' none [] U' = some v := by
    simp [Term.eval, State.fieldNamed?, h1, h2, h4, h5', h6, h7]
  simp only [Cond.before, Cond.holds, Cond.value, he]
  cases v <;> simp_all [Value.isRef]
theorem ai_stay_isRef {args : Array Value} {s : State} {C n d : String} {A : Nat → Prop} (hl : (Cond.laysStatic C n d).before args s = true) (hini : (Cond.initialized C).before args s = true) (h : (Cond.isRef (.static C n d)).before args s = true) (hA : ∀ a : Nat, a < s.heap.size → ¬ A a) : ai_stay (.isRef (.static C n d)) A s s.heap := by
  rcases va_Zqof hl hini h hA with h | ⟨t, h⟩
  · exact ai_isRef_of h rfl
  · exact ai_isRef_of h rfl
section AIT
variable {p : Program} {l : Launch} {e : Env} {R : Room} {s : State} {m : MethodId} {args : Array Value} {below : List Frame} {meth : Method} {c : Code} {T : State} {locs : List Loc} {cells slots : Nat}
/-- the frame as if the method had been entered with the heap as it is now -/
def ai_now (s : State) (m : MethodId) (args : Array Value) (below : List Frame) (T : State) : State := (T.setVm s.vm).setFrames (.invoking m args :: below)
theorem ai_anew (X : Stand p l e R s m args below meth c T locs cells slots) {kc ks : Nat} (hc : cells + kc ≤ R.cells) (hs : slots + ks ≤ R.slots) :
    Stand p l e { frames := R.frames, locals := R.locals, cells := kc, slots := ks } (ai_now s m args below T) m args below meth c T [] 0 0 := by
  have htop : (T.setVm s.vm).topJava?.isSome := X.here.top
  have hF : (ai_now s m args below T).frames = .invoking m args :: below := State.frames_setFrames _ (State.cur_lt_of_top htop)
  obtain ⟨g₀, hg0⟩ := Option.isSome_iff_exists.mp htop
  obtain ⟨r, hr⟩ := State.topJava?_eq_some.mp hg0
  have hl9 : e.platform.stackLimits (T.setVm s.vm).me = e.platform.stackLimits s.me := X.limits
  have hb9 : (T.setVm s.vm).me.stackBytes = s.me.stackBytes := X.bytes
  have hnil : T.heap.toList.drop T.heap.size = [] := List.drop_eq_nil_of_le (Nat.le_of_eq Array.length_toList)
  refine ⟨X.admits, X.cas, X.clock, hF, ?_, X.hears, X.method, X.code, X.here, X.tail, X.warmed, ?_, ?_, ?_⟩
  · have h := X.room
    have hU : (ai_now s m args below T).localsInUse = s.localsInUse := by
      rw [State.localsInUse_invoking hF (meth := meth) (c := c) X.method X.code, State.localsInUse_invoking X.frames X.method X.code]
    have q1 := X.heapSize
    have q2 := X.used
    unfold ai_now at hF hU ⊢
    simp only [State.hasRoom, Bool.and_eq_true, decide_eq_true_eq] at h ⊢
    obtain ⟨⟨⟨⟨h1, h2, h3, h4, h5, h6⟩, h7⟩, h8⟩, h9⟩ := h
    rw [X.frames, List.length_cons] at h2 h3
    simp only [hF, hU, List.length_cons, State.stackLimits_setFrames, State.stackBytes_setFrames, hl9, hb9]
    refine ⟨⟨⟨⟨by omega, by omega, by omega, by omega, by omega, h6⟩, ?_⟩, ?_⟩, X.book⟩
    · show T.heap.size + kc ≤ e.platform.maxCells
      omega
    · show T.slotsUsed + ks ≤ e.platform.maxSlots
      omega
  · unfold ai_now; rw [State.stackLimits_setFrames]; rfl
  · unfold ai_now; rw [State.stackBytes_setFrames]; rfl
  · refine ⟨?_, Nat.le_refl _, Nat.le_refl _, ?_, ?_, fun a c9 h9 => ⟨c9, h9, rfl, rfl, fun _ _ => rfl⟩⟩
    · obtain ⟨t, ht, -⟩ := State.frames_cons hr
      show T.setVm s.vm = { ((T.setVm s.vm).setFrames (.invoking m args :: below)).setFrames (T.setVm s.vm).frames with heap := T.heap, slotsUsed := T.slotsUsed }
      rw [State.setFrames_setFrames, State.setFrames_self ht]
      rfl
    · show T.slotsUsed = T.slotsUsed + ((T.heap.toList.drop T.heap.size).map (·.slots.size)).sum
      rw [hnil]; rfl
    · show ((T.heap.toList.drop T.heap.size).map (·.slots.size)).sum ≤ 0
      rw [hnil]; exact Nat.le_refl _
end AIT
end
section
/-! 'throw new E(..)': the object is made, its constructors run, and the method ends. -/
section AITH
variable {p : Program} {l : Launch} {e : Env} {R : Room} {s : State} {m : MethodId} {args : Array Value} {below : List Frame} {meth : Method} {c : Code} {T U : State} {locs : List Loc} {cells slots : Nat}
/-- cells that were there when the throw began are as they were; what the whole method has changed and made -/
theorem ai_thr_same (X : Stand p l e R s m args below meth c T locs cells slots) {n k : Nat} (h : (ai_now s m args below T).sameButNew ({ U with vm := (ai_now s m args below T).vm } : State) [] n k) :
    s.sameButNew ({ U with vm := s.vm } : State) locs (cells + n) (slots + k) ∧ T.heap.size ≤ U.heap.size ∧ ∀ q : Nat, q < T.heap.size → U.heap[q]? = T.heap[q]? := by
  obtain ⟨e1, e2, e3, e4, e5, e6⟩ := h
  refine ⟨?_, e2, fun q hq => ?_⟩
  · have e1' : ({ U with vm := s.vm } : State) = { ((T.setVm s.vm).setFrames (.invoking m args :: below)).setFrames U.frames with heap := U.heap, slotsUsed := U.slotsUsed } := e1
    rw [State.setFrames_setFrames] at e1'
    have h2 : (T.setVm s.vm).sameButNew ({ U with vm := s.vm } : State) [] n k := ⟨e1', e2, e3, e4, e5, e6⟩
    have h3 := X.same.trans h2
    rw [List.append_nil] at h3
    exact h3
  · obtain ⟨c9, g1, g2, g3, g4⟩ := e6 q _ (Array.getElem?_eq_getElem hq)
    have hs : c9.slots = (T.heap[q]).slots := Array.ext_getElem? fun i => g4 i (fun hm => nomatch hm)
    have h9 : c9 = T.heap[q] := by
      rw [hs] at g2
      exact g2
    have g5 : U.heap[q]? = some c9 := g1
    rw [g5, h9, Array.getElem?_eq_getElem hq]
/-- how a method of ours ends that has thrown -/
def ai_thrs (p : Program) (e : Env) (s : State) (below : List Frame) (T : State) (locs : List Loc) (cells slots : Nat) (g : JFrame) (cls : String) : Prop :=
  ∃ (U : State) (ce : Cell) (q : Addr), Steps p.tables e below (T.setTop g) U ∧ U.status = .running ∧ Ended U below (.threw q) ∧ ai_end s U locs (cells + 1) (slots + 6) ∧ T.heap.size ≤ U.heap.size ∧ (∀ q : Nat, q < T.heap.size → U.heap[q]? = T.heap[q]?) ∧ U.heap[q]? = some ce ∧ ce.vm = .none ∧ s.vm.findClass cls = some ce.cls
variable {cc : ByteArray} {pc : Nat} {own cls text : String} {names : List String} {ik is ic sa : Nat} {ls : Array Slot} {rest : List Value}
set_option maxHeartbeats 1000000 in
theorem ai_throw0 (X : Stand p l e R s m args below meth c T locs cells slots) (hexec : p.tables.exec = Jvm.exec) (hb : c.code = cc) (hl : l.stackTraces = false) (hown : s.vm.findClass own = some m.cls) (hcls : Bundle.fit cls = true) (hnames : ∀ n ∈ names, Bundle.fit n = true)
    (hk : (Cond.classLink own ik cls).before args (ai_now s m args below T) = true) (hini : (Cond.initialized cls).before args (ai_now s m args below T) = true) (h : ∀ w ∈ Bundle.ownAtoms0 own ic cls names, w.before args (ai_now s m args below T) = true) (hsize : ls.size = c.maxLocals)
    (d0 : decode cc pc = .ok (.new ik, 3)) (d3 : decode cc (pc + 3) = .ok (.dup, 1)) (d4 : decode cc (pc + 4) = .ok (.invokespecial ic, 3)) (d7 : decode cc (pc + 7) = .ok (.athrow, 1))
    (hout : ∀ x ∈ c.exceptionTable.toList, covers x (pc + 7) = false) (hRf : names.length + 3 < R.frames) (hRl : (rest.map fun v => v.category).sum + (13 * (names.length + 1) + 43) ≤ R.locals) (hRc : cells + 1 ≤ R.cells) (hRs : slots + 6 ≤ R.slots) (hlocks : meth.locks = false) :
    ai_thrs p e s below T locs cells slots (F0 m pc ls rest) cls := by
  have htr : e.platform.stackTraces = false := (show e.platform.stackTraces = l.stackTraces by rw [X.admits.platform]).trans hl
  have Y := ai_anew X (kc := 1) (ks := 6) hRc hRs
  have hown' : (ai_now s m args below T).vm.findClass own = some m.cls := hown
  have hins : (Cond.instantiable cls 6).before args (ai_now s m args below T) = true := h _ (by simp [Bundle.ownAtoms0])
  obtain ⟨vm₁, cX, kX, hfX, hkX, -, -, X₁, st1⟩ := Y.newCold hexec (own := own) (C := cls) (index := ik) (n := 6) hown' hk hins hini (g := F0 m pc ls rest) rfl (by rw [hb]; exact d0) (Nat.le_refl _) (Nat.le_refl _)
  generalize hT1 : (T.setVm vm₁).pushCell { cls := cX, slots := kX.instanceTypes.map defaultValue, vm := .none } = T1 at X₁ st1
  have hcat : (Value.ref T.heap.size).category = 1 := rfl
  have hcellA : T1.heap[T.heap.size]? = some (freshCell cX kX) := by rw [← hT1]; exact State.heap_pushCell_size _ _
  have d3' : decode c.code (pc + 3) = .ok (.dup, 1) := by rw [hb]; exact d3
  have hhp : (ai_now s m args below T).heap = T.heap := rfl
  obtain ⟨U, hsteps, hrun, hend, hW, hsame, ce, hce, hO⟩ := X₁.ctorThrow0 hexec htr (own := own) (cls := cls) (names := names) (ic := ic) hown' hcls hnames h (fun x hx => nomatch hx) hfX hkX hcellA (by rw [hhp]; exact Nat.le_refl _)
    (g := { method := m, pc := pc + 4, locals := ls, stack := .ref T.heap.size :: .ref T.heap.size :: rest, locked := none }) rfl hsize rfl rfl (rest := rest) rfl
    (by rw [hb]; exact d4) (by rw [hb]; exact d7) hout hRf (by simp only [List.map_cons, List.sum_cons, hcat]; have hz : (2 * ({ method := m, pc := pc + 4, locals := ls, stack := .ref T.heap.size :: .ref T.heap.size :: rest, locked := none } : JFrame).monitorRoom) = 0 := rfl; omega) hlocks
  obtain ⟨f1, f2, f3⟩ := ai_thr_same X hsame
  refine ⟨U, ce, T.heap.size, ?_, hrun, hend, ⟨hW, by simpa using f1⟩, f2, f3, hce, hO.vm, hO.cls⟩
  refine st1 _ ?_
  show Steps p.tables e below (T1.setTop { method := m, pc := pc + 3, locals := ls, stack := .ref T.heap.size :: rest, locked := none }) _
  jvm_step X₁.here [X₁.here.top, hexec, d3', Value.category]
  exact hsteps
set_option maxHeartbeats 1000000 in
theorem ai_throwS {ln : Nat} (X : Stand p l e R s m args below meth c T locs cells slots) (hexec : p.tables.exec = Jvm.exec) (hb : c.code = cc) (hl : l.stackTraces = false) (hown : s.vm.findClass own = some m.cls) (hcls : Bundle.fit cls = true) (hnames : ∀ n ∈ names, Bundle.fit n = true)
    (hk : (Cond.classLink own ik cls).before args (ai_now s m args below T) = true) (hini : (Cond.initialized cls).before args (ai_now s m args below T) = true) (hstr : vk_R own is text sa (ai_now s m args below T)) (h : ∀ w ∈ Bundle.ownAtoms own ic cls names, w.before args (ai_now s m args below T) = true) (hsize : ls.size = c.maxLocals)
    (d0 : decode cc pc = .ok (.new ik, 3)) (d3 : decode cc (pc + 3) = .ok (.dup, 1)) (d4 : (decode cc (pc + 4) = .ok (.ldc is, 2) ∧ ln = 2) ∨ (decode cc (pc + 4) = .ok (.ldc_w is, 3) ∧ ln = 3)) (d6 : decode cc (pc + 4 + ln) = .ok (.invokespecial ic, 3)) (d9 : decode cc (pc + 4 + ln + 3) = .ok (.athrow, 1))
    (hout : ∀ x ∈ c.exceptionTable.toList, covers x (pc + 4 + ln + 3) = false) (hRf : names.length + 3 < R.frames) (hRl : (rest.map fun v => v.category).sum + (13 * (names.length + 1) + 43) ≤ R.locals) (hRc : cells + 1 ≤ R.cells) (hRs : slots + 6 ≤ R.slots) (hlocks : meth.locks = false) :
    ai_thrs p e s below T locs cells slots (F0 m pc ls rest) cls := by
  have htr : e.platform.stackTraces = false := (show e.platform.stackTraces = l.stackTraces by rw [X.admits.platform]).trans hl
  have Y := ai_anew X (kc := 1) (ks := 6) hRc hRs
  have hown' : (ai_now s m args below T).vm.findClass own = some m.cls := hown
  have hins : (Cond.instantiable cls 6).before args (ai_now s m args below T) = true := h _ (by simp [Bundle.ownAtoms])
  obtain ⟨vm₁, cX, kX, hfX, hkX, -, -, X₁, st1⟩ := Y.newCold hexec (own := own) (C := cls) (index := ik) (n := 6) hown' hk hins hini (g := F0 m pc ls rest) rfl (by rw [hb]; exact d0) (Nat.le_refl _) (Nat.le_refl _)
  generalize hT1 : (T.setVm vm₁).pushCell { cls := cX, slots := kX.instanceTypes.map defaultValue, vm := .none } = T1 at X₁ st1
  have hcat : (Value.ref T.heap.size).category = 1 := rfl
  have hcellA : T1.heap[T.heap.size]? = some (freshCell cX kX) := by rw [← hT1]; exact State.heap_pushCell_size _ _
  have d3' : decode c.code (pc + 3) = .ok (.dup, 1) := by rw [hb]; exact d3
  have hhp : (ai_now s m args below T).heap = T.heap := rfl
  obtain ⟨U, hsteps, hrun, hend, hW, hsame, ce, hce, hO⟩ := X₁.ctorThrowS hexec htr (own := own) (cls := cls) (names := names) (ic := ic) hown' hcls hnames h (fun x hx => nomatch hx) hfX hkX hcellA (by rw [hhp]; exact Nat.le_refl _) (msg := .ref sa) rfl
    (g := { method := m, pc := pc + 4 + ln, locals := ls, stack := .ref sa :: .ref T.heap.size :: .ref T.heap.size :: rest, locked := none }) rfl hsize rfl rfl (rest := rest) rfl
    (by rw [hb]; exact d6) (by rw [hb]; exact d9) hout hRf (by simp only [List.map_cons, List.sum_cons, hcat]; have hz : (2 * ({ method := m, pc := pc + 4 + ln, locals := ls, stack := .ref sa :: .ref T.heap.size :: .ref T.heap.size :: rest, locked := none } : JFrame).monitorRoom) = 0 := rfl; omega) hlocks
  obtain ⟨f1, f2, f3⟩ := ai_thr_same X hsame
  refine ⟨U, ce, T.heap.size, ?_, hrun, hend, ⟨hW, by simpa using f1⟩, f2, f3, hce, hO.vm, hO.cls⟩
  refine st1 _ ?_
  show Steps p.tables e below (T1.setTop { method := m, pc := pc + 3, locals := ls, stack := .ref T.heap.size :: rest, locked := none }) _
  jvm_step X₁.here [X₁.here.top, hexec, d3', Value.category]
  rcases d4 with ⟨d4, rfl⟩ | ⟨d4, rfl⟩
  · have d4' : decode c.code (pc + 4) = .ok (.ldc is, 2) := by rw [hb]; exact d4
    exact X₁.ldcString hexec (own := own) (text := text) (index := is) (a := sa) hown' hstr.1 hstr.2
      (g := { method := m, pc := pc + 4, locals := ls, stack := .ref T.heap.size :: .ref T.heap.size :: rest, locked := none }) rfl d4' _ hsteps
  · have d4' : decode c.code (pc + 4) = .ok (.ldc_w is, 3) := by rw [hb]; exact d4
    exact X₁.ldcStringW hexec (own := own) (text := text) (index := is) (a := sa) hown' hstr.1 hstr.2
      (g := { method := m, pc := pc + 4, locals := ls, stack := .ref T.heap.size :: .ref T.heap.size :: rest, locked := none }) rfl d4' _ hsteps
end AITH
end
section
/-! THE CONTRACT OF A METHOD: what the small machine answers is what the large one does. -/
/-- what is given of the program: machine's constants, classes of constant objects, classes that are made, types of their fields; the entries that are String constants (class, entry, text, number), the static fields (class, name, type, what it holds), words of cells that nobody changes -/
abbrev ai_Y : Type := ai_G × (Nat → String × u_T) × List vw_C × (Nat → Nat → FieldType) × List (String × Nat × String × Nat) × List (String × String × String × Value) × List Cond
abbrev ai_yG (y : ai_Y) : ai_G := y.1
abbrev ai_yZ (y : ai_Y) : ai_S := y.1.1
abbrev ai_yN (y : ai_Y) : Nat → String := y.1.2.1
abbrev ai_yc (y : ai_Y) : Nat → String × u_T := y.2.1
abbrev ai_yl (y : ai_Y) : List vw_C := y.2.2.1
abbrev ai_yt (y : ai_Y) : Nat → Nat → FieldType := y.2.2.2.1
abbrev ai_ys (y : ai_Y) : List (String × Nat × String × Nat) := y.2.2.2.2.1
abbrev ai_yf (y : ai_Y) : List (String × String × String × Value) := y.2.2.2.2.2.1
abbrev ai_yw (y : ai_Y) : List Cond := y.2.2.2.2.2.2
/-- what holds of the constants at a state, seen by a method that changes cells of A alone -/
def ai_E (y : ai_Y) (sa : Nat → Nat) (A : Nat → Prop) (U : State) (H : Heap) : Prop :=
  (∀ k x, ai_yZ y k = some x → ai_zc (ai_yc y) sa x (sa k) A U H) ∧ (∀ q ∈ ai_ys y, vk_R q.1 q.2.1 q.2.2.1 (sa q.2.2.2) U) ∧ (∀ q ∈ ai_yf y, ∃ V, ai_v sa [] q.2.2.2 V ∧ va_Z q.1 q.2.1 q.2.2.1 V A U H) ∧ (∀ w ∈ ai_yw y, ai_stay w A U H) ∧ va_AO "QueryReader$Sort" U ∧ va_AO "java/lang/String" U
theorem ai_E_moved {y : ai_Y} {sa : Nat → Nat} {A : Nat → Prop} {u U : State} {H : Heap} (hW : u.WarmedH U.vm) (h : ai_E y sa A u H) : ai_E y sa A U H := by
  obtain ⟨h1, h2, h3, h4, h5, h6⟩ := h
  refine ⟨fun k x hk => ai_zc_moved hW.alike (h1 k x hk), fun q hq => vk_R.warm hW (h2 q hq), fun q hq => ?_, fun w hw => ai_stay_moved hW.alike (h4 w hw), va_AO.moved hW.alike h5, va_AO.moved hW.alike h6⟩
  obtain ⟨V, g1, g2⟩ := h3 q hq
  exact ⟨V, g1, va_Z.moved hW.alike g2⟩
theorem ai_E_kept {y : ai_Y} {sa : Nat → Nat} {A : Nat → Prop} {U : State} {H H1 : Heap} (hz : H.size ≤ H1.size) (h : ai_E y sa A U H) (hq : ∀ a : Nat, a < H.size → ¬ A a → H1[a]? = H[a]?) : ai_E y sa A U H1 := by
  obtain ⟨h1, h2, h3, h4, h5, h6⟩ := h
  refine ⟨fun k x hk => ai_zc_kept (h1 k x hk) hq, h2, fun q hq2 => ?_, fun w hw => ai_stay_kept hz (h4 w hw) hq, h5, h6⟩
  obtain ⟨V, g1, g2⟩ := h3 q hq2
  exact ⟨V, g1, g2.kept hq⟩
theorem ai_E_narrow {y : ai_Y} {sa : Nat → Nat} {A B : Nat → Prop} {U : State} {H : Heap} (h : ai_E y sa A U H) (hAB : ∀ q, B q → A q) : ai_E y sa B U H := by
  obtain ⟨h1, h2, h3, h4, h5, h6⟩ := h
  refine ⟨fun k x hk => ai_zc_narrow (h1 k x hk) hAB, h2, fun q hq2 => ?_, fun w hw => ai_stay_narrow (h4 w hw) hAB, h5, h6⟩
  obtain ⟨V, g1, g2⟩ := h3 q hq2
  exact ⟨V, g1, g2.narrow hAB⟩
/-- a method's start: its arguments Vs, its world ws0 in a heap of sz cells -/
def ai_Pc (y : ai_Y) (sa : Nat → Nat) (D : va_G) (tys0 : List (ClassId × FieldType)) (ws0 : va_W) (Vs : List Value) (sz : Nat) : Array Value → State → Prop := fun a U =>
  a = Vs.toArray ∧ U.heap.size = sz ∧ va_P D (ai_yl y) ws0 U.heap ∧ va_K D (ai_yl y) tys0 U ∧ va_D (fun _ => True) ws0 ∧ ai_E y sa (va_A ws0 sz) U U.heap
/-- how it ends: as the small machine says -/
def ai_res (sa : Nat → Nat) (ad : List Nat) (O : Option Value ⊕ String) (st : State) (o : Outcome) (t : State) : Prop := match O with
  | .inl none => o = .returned none
  | .inl (some v) => ∃ V, o = .returned (some V) ∧ ai_v sa ad v V
  | .inr E => ∃ (q : Addr) (ce : Cell), o = .threw q ∧ t.heap[q]? = some ce ∧ ce.vm = .none ∧ st.vm.findClass E = some ce.cls
def ai_Qc (y : ai_Y) (sa : Nat → Nat) (D : va_G) (ad0 : List Nat) (A : Nat → Prop) (kc ks : Nat) (out : ai_O) : Array Value → State → Outcome → State → Prop := fun _ st o t =>
  ∃ (ad : List Nat) (tys : List (ClassId × FieldType)) (ws : va_W) (L : List Loc), (∃ q, ad = ad0 ++ q) ∧ ai_w (ai_yZ y) (ai_yN y) sa ad tys out.2.1 ws ∧ va_K D (ai_yl y) tys t ∧ va_P D (ai_yl y) ws t.heap ∧ va_D A ws ∧ va_F A st t ∧ ai_end st t L (out.2.2.1 - kc) (out.2.2.2 - ks) ∧ (∀ z ∈ L, A z.base) ∧ ai_res sa ad out.1 st o t
/-- the room of a call that may go d deep -/
def ai_rm (d mc ms : Nat) : Room := { frames := d + 6, cells := mc, slots := ms, locals := 40 * d + 200 }
/-- the words of a method: its code, and those of the tables -/
def ai_ws (TB : List Cond) (M : ai_M) : List Cond := ai_cw (ai_Mn M) (ai_Mb M) (ai_Ml M) (ai_Mr M) (ai_Mx M) :: TB
/-- the contract of a method at one start of the small machine -/
def ai_Met (l : Launch) (TB : List Cond) (y : ai_Y) (sa : Nat → Nat) (D : va_G) (d : Nat) (M : ai_M) (As : List Value) (h : ai_H) (out : ai_O) : Prop :=
  ∀ (ad0 : List Nat) (tys0 : List (ClassId × FieldType)) (ws0 : va_W) (Vs : List Value) (sz : Nat), ai_w (ai_yZ y) (ai_yN y) sa ad0 tys0 h.1 ws0 → ai_vs sa ad0 As Vs →
    MetFree l (ai_Mn M) (headSpec (ai_ws TB M) (ai_rm d (out.2.2.1 - h.2.1) (out.2.2.2 - h.2.2))) (ai_Pc y sa D tys0 ws0 Vs sz) (fun _ _ _ _ _ => True) (ai_Qc y sa D ad0 (va_A ws0 sz) h.2.1 h.2.2 out)
/-! the numbers of cells and slots only grow -/
def ai_le (h h' : ai_H) : Prop := h.2.1 ≤ h'.2.1 ∧ h.2.2 ≤ h'.2.2
theorem ai_le_refl (h : ai_H) : ai_le h h := ⟨Nat.le_refl _, Nat.le_refl _⟩
theorem ai_le_trans {a b c : ai_H} (h1 : ai_le a b) (h2 : ai_le b c) : ai_le a c := ⟨Nat.le_trans h1.1 h2.1, Nat.le_trans h1.2 h2.2⟩
theorem ai_eff_le {G : ai_G} {i : Instr} {r : ai_R} {L L' : ai_L} {S S' : List Value} {h h' : ai_H} {t : Nat} (he : ai_eff G i r L S h = some (t, L', S', h')) : ai_le h h' := by
  have z : ∀ {t t' : Nat} {L L' : ai_L} {S S' : List Value} {g g' : ai_H}, (some (t, L, S, g) : Option ai_N) = some (t', L', S', g') → ai_le h g → ai_le h g' := by
    intro t t' L L' S S' g g' e hg
    cases e
    exact hg
  unfold ai_eff at he
  split at he <;> first
    | (cases he; done)
    | exact z he (ai_le_refl h)
    | (unfold ai_const at he; split at he <;> first | exact z he (ai_le_refl h) | cases he)
    | (unfold ai_iload at he; split at he <;> first | exact z he (ai_le_refl h) | cases he)
    | (unfold ai_aload at he; split at he <;> first | (split at he <;> first | exact z he (ai_le_refl h) | cases he) | cases he)
    | (unfold ai_istore at he; split at he <;> first | (split at he <;> first | exact z he (ai_le_refl h) | cases he) | cases he)
    | (unfold ai_astore at he; split at he <;> first | (split at he <;> first | exact z he (ai_le_refl h) | cases he) | cases he)
    | (unfold ai_inc at he; split at he <;> first | exact z he (ai_le_refl h) | cases he)
    | (unfold ai_bin at he; split at he <;> first | exact z he (ai_le_refl h) | cases he)
    | (unfold ai_divs at he; split at he <;> first | (split at he <;> first | exact z he (ai_le_refl h) | cases he) | cases he)
    | (unfold ai_un at he; split at he <;> first | exact z he (ai_le_refl h) | cases he)
    | (unfold ai_dup at he; split at he <;> first | (split at he <;> first | (split at he <;> first | exact z he (ai_le_refl h) | cases he) | cases he) | cases he)
    | (unfold ai_jump at he; exact z he (ai_le_refl h))
    | (split at he <;> first | (unfold ai_jump at he; exact z he (ai_le_refl h)) | (unfold ai_sw at he; exact z he (ai_le_refl h)) | exact z he (ai_le_refl h) | (cases he; done) | (split at he <;> first | (unfold ai_jump at he; exact z he (ai_le_refl h)) | exact z he (ai_le_refl h) | (cases he; done) | (split at he <;> first | (unfold ai_jump at he; exact z he (ai_le_refl h)) | cases he)))
    | (unfold ai_getf at he; split at he <;> first | (split at he <;> first | (split at he <;> first | (split at he <;> first | exact z he (ai_le_refl h) | cases he) | cases he) | cases he) | cases he)
    | (unfold ai_putf at he; split at he <;> first | (split at he <;> first | (split at he <;> first | exact z he (ai_le_refl h) | cases he) | cases he) | cases he)
    | (unfold ai_ald at he; split at he <;> first | (split at he <;> first | (split at he <;> first | exact z he (ai_le_refl h) | cases he) | cases he) | cases he)
    | (unfold ai_lald at he; split at he <;> first | (split at he <;> first | (split at he <;> first | exact z he (ai_le_refl h) | cases he) | cases he) | cases he)
    | (unfold ai_aald at he; split at he <;> first | (split at he <;> first | (split at he <;> first | exact z he (ai_le_refl h) | cases he) | cases he) | cases he)
    | (unfold ai_ast at he; split at he <;> first | (split at he <;> first | (split at he <;> first | exact z he (ai_le_refl h) | cases he) | cases he) | cases he)
    | (unfold ai_last at he; split at he <;> first | (split at he <;> first | (split at he <;> first | exact z he (ai_le_refl h) | cases he) | cases he) | cases he)
    | (unfold ai_aast at he; split at he <;> first | (split at he <;> first | (split at he <;> first | (split at he <;> first | exact z he (ai_le_refl h) | cases he) | cases he) | cases he) | cases he)
    | (unfold ai_alen at he; split at he <;> first | (split at he <;> first | exact z he (ai_le_refl h) | cases he) | cases he)
    | (unfold ai_newa at he; split at he <;> first | (split at he <;> first | exact z he ⟨Nat.le_succ _, Nat.le_add_right _ _⟩ | cases he) | cases he)
    | (unfold ai_newq at he; split at he <;> first | (split at he <;> first | exact z he ⟨Nat.le_succ _, Nat.le_add_right _ _⟩ | cases he) | cases he)
    | (unfold ai_new at he; exact z he ⟨Nat.le_succ _, Nat.le_add_right _ _⟩)
end
section
theorem ai_copy_le {S S' : List Value} {h h' : ai_H} (he : ai_copy S h = some (S', h')) : ai_le h h' := by
  unfold ai_copy at he
  split at he
  · split at he
    · cases he
    · split at he
      · split at he
        · split at he
          · cases he; exact ai_le_refl h
          · cases he
        · cases he
      · split at he
        · split at he
          · cases he; exact ai_le_refl h
          · cases he
        · cases he
      · cases he
  · cases he
theorem ai_go_le {G : ai_G} {rec : Nat → List Value → ai_H → Option ai_O} (hrec : ∀ mi As h out, rec mi As h = some out → ai_le h out.2) {M : ai_M} : ∀ (n k : Nat) (L : ai_L) (S : List Value) (h : ai_H) (out : ai_O), ai_go G rec M n k L S h = some out → ai_le h out.2 := by
  intro n
  induction n with
  | zero => intro k L S h out he; cases he
  | succ n ih =>
    intro k L S h out he
    simp only [ai_go] at he
    split at he
    · cases he
    · split at he
      · split at he
        · rename_i heff
          exact ai_le_trans (ai_eff_le heff) (ih _ _ _ _ _ he)
        · cases he
      · split at he
        · split at he
          · rename_i hr
            exact ai_le_trans (hrec _ _ _ _ hr) (ih _ _ _ _ _ he)
          · rename_i hr
            split at he
            · split at he
              · exact ai_le_trans (hrec _ _ _ _ hr) (ih _ _ _ _ _ he)
              · cases he
            · cases he
              exact hrec _ _ _ _ hr
          · cases he
        · cases he
      · split at he
        · cases he
          exact ⟨Nat.le_succ _, Nat.le_add_right _ _⟩
        · cases he
      · split at he
        · split at he
          · exact ih _ _ _ _ _ he
          · cases he
        · cases he
      · split at he
        · rename_i hc
          split at he
          · exact ai_le_trans (ai_copy_le hc) (ih _ _ _ _ _ he)
          · cases he
        · cases he
      · split at he
        · split at he
          · split at he
            · cases he; exact ai_le_refl h
            · cases he
          · cases he
        · cases he
      · split at he
        · split at he
          · cases he; exact ai_le_refl h
          · cases he
        · cases he
      · split at he
        · cases he; exact ai_le_refl h
        · cases he
      · cases he
theorem ai_run_le {P : Nat → Option ai_M} {G : ai_G} {F : Nat} : ∀ (d mi : Nat) (As : List Value) (h : ai_H) (out : ai_O), ai_run P G F d mi As h = some out → ai_le h out.2 := by
  intro d
  induction d with
  | zero => intro mi As h out he; cases he
  | succ d ih =>
    intro mi As h out he
    simp only [ai_run] at he
    split at he
    · split at he
      · exact ai_go_le (fun mi As h out => ih mi As h out) _ _ _ _ _ _ he
      · cases he
    · cases he
section AIR2
variable {p : Program} {l : Launch} {e : Env} {R : Room} {s : State} {m : MethodId} {args : Array Value} {below : List Frame} {meth : Method} {c : Code} {Q : State → Prop}
variable {y : ai_Y} {sa : Nat → Nat} {D : va_G} {A : Nat → Prop} {ad0 : List Nat} {kc ks : Nat} {cc : ByteArray} {pc : Nat} {L : ai_L} {h : ai_H} {out : ai_O}
/-- what a body owes -/
def ai_Zp (y : ai_Y) (sa : Nat → Nat) (D : va_G) (ad0 : List Nat) (A : Nat → Prop) (kc ks : Nat) (out : ai_O) (below : List Frame) (args : Array Value) (s : State) : State → Prop := fun t => ∃ o, t.status = .running ∧ Ended t below o ∧ ai_Qc y sa D ad0 A kc ks out args s o t
theorem ai_Wmono {Q1 Q2 : State → Prop} {H : Heap} {locs : List Loc} {cells slots : Nat} {g : JFrame} (h : ∀ t, Q1 t → Q2 t) (k : W p l e R s m args below meth c H locs cells slots Q1 g) : W p l e R s m args below meth c H locs cells slots Q2 g := by
  intro T hT X
  obtain ⟨t, a, b⟩ := k T hT X
  exact ⟨t, a, h t b⟩
/-- the world behind an end -/
theorem ai_ended {ad : List Nat} {tys : List (ClassId × FieldType)} {ws : va_W} {H : Heap} {locs L9 : List Loc} {cells slots : Nat} {t : State} {o : Outcome} {O : Option Value ⊕ String} (ha : ai_At s (ai_yZ y) (ai_yN y) sa D (ai_yl y) A ad0 kc ks h ad tys ws H locs cells slots) (hH : t.heap = H) (hW : s.WarmedH t.vm)
    (hE : s.sameButNew ({ t with vm := s.vm } : State) L9 cells slots) (hL : ∀ z ∈ L9, A z.base) (hr : ai_res sa ad O s o t) : ai_Qc y sa D ad0 A kc ks (O, h) args s o t := by
  obtain ⟨q1, q2, q3, hw, hK, hP, hD, hS⟩ := ha
  have e1 : h.2.1 - kc = cells := by omega
  have e2 : h.2.2 - ks = slots := by omega
  refine ⟨ad, tys, ws, L9, q1, hw, va_K.moved hW.alike hK, by rw [hH]; exact hP, hD, hS.F hH, ⟨hW, ?_⟩, hL, hr⟩
  show s.sameButNew _ L9 (h.2.1 - kc) (h.2.2 - ks)
  rw [e1, e2]
  exact hE
theorem ai_iret_ok (hx : p.tables.exec = Jvm.exec) (hb : c.code = cc) (hd : decode cc pc = .ok (.ireturn, 1)) (hlocks : meth.locks = false) {ty : FieldType} (hr : meth.sig.returnType = some ty) {x : Int32} (hn : narrow ty (.int x) = .int x) :
    ai_W p l e R s m args below meth c (ai_Zp y sa D ad0 A kc ks (.inl (some (.int x)), h) below args s) (ai_yZ y) (ai_yN y) sa D (ai_yl y) A ad0 kc ks pc L [.int x] h := by
  intro ad tys ws H locs cells slots ls st ha hl hs
  obtain ⟨V, T, rfl, hv, hs9⟩ := ai_vs_cons hs
  rw [ai_vs_nil hs9, show V = .int x from hv]
  refine ai_Wmono (fun t ht => ?_) (W.zret (Qc := fun _ _ o t => o = .returned (some (.int x)) ∧ t.heap = H) (free := A) hx hb hr hn (fun t h1 _ => ⟨rfl, h1⟩) ha.2.2.2.2.2.2.2.2.2 hd hlocks)
  obtain ⟨o, b1, b2, ⟨rfl, b3⟩, L9, ⟨-, b4, b5⟩, b6⟩ := ht
  exact ⟨_, b1, b2, ai_ended ha b3 b4 b5 b6 ⟨_, rfl, rfl⟩⟩
theorem ai_aret_ok (hx : p.tables.exec = Jvm.exec) (hb : c.code = cc) (hd : decode cc pc = .ok (.areturn, 1)) (hlocks : meth.locks = false) {rt : FieldType} (hr : meth.sig.returnType = some rt) (hrt : (∃ n, rt = .object n) ∨ ∃ t, rt = .array t) {v : Value} (hn : (ai_nul v).isSome = true) :
    ai_W p l e R s m args below meth c (ai_Zp y sa D ad0 A kc ks (.inl (some v), h) below args s) (ai_yZ y) (ai_yN y) sa D (ai_yl y) A ad0 kc ks pc L [v] h := by
  intro ad tys ws H locs cells slots ls st ha hl hs
  obtain ⟨V, T, rfl, hv, hs9⟩ := ai_vs_cons hs
  rw [ai_vs_nil hs9]
  obtain ⟨b, hb9⟩ := Option.isSome_iff_exists.mp hn
  have hV : V = .null ∨ ∃ a, V = .ref a := by
    rcases ai_nul_v hb9 hv with ⟨-, h1⟩ | ⟨-, h1⟩
    · exact Or.inl h1
    · exact Or.inr h1
  refine ai_Wmono (fun t ht => ?_) (W.aret (Qc := fun _ _ o t => o = .returned (some V) ∧ t.heap = H) (free := A) hx hb hr hrt hV (fun t h1 _ => ⟨rfl, h1⟩) ha.2.2.2.2.2.2.2.2.2 hd hlocks)
  obtain ⟨o, b1, b2, ⟨rfl, b3⟩, L9, ⟨-, b4, b5⟩, b6⟩ := ht
  exact ⟨_, b1, b2, ai_ended ha b3 b4 b5 b6 ⟨_, rfl, hv⟩⟩
theorem ai_vret_ok (hx : p.tables.exec = Jvm.exec) (hb : c.code = cc) (hd : decode cc pc = .ok (.return_, 1)) (hlocks : meth.locks = false) (hr : meth.sig.returnType = none) :
    ai_W p l e R s m args below meth c (ai_Zp y sa D ad0 A kc ks (.inl none, h) below args s) (ai_yZ y) (ai_yN y) sa D (ai_yl y) A ad0 kc ks pc L [] h := by
  intro ad tys ws H locs cells slots ls st ha hl hs
  rw [ai_vs_nil hs]
  refine ai_Wmono (fun t ht => ?_) (W.vret (Qc := fun _ _ o t => o = .returned none ∧ t.heap = H) (free := A) hx hb hr (fun t h1 _ => ⟨rfl, h1⟩) ha.2.2.2.2.2.2.2.2.2 hd hlocks)
  obtain ⟨o, b1, b2, ⟨rfl, b3⟩, L9, ⟨-, b4, b5⟩, b6⟩ := ht
  exact ⟨_, b1, b2, ai_ended ha b3 b4 b5 b6 rfl⟩
/-- a throw of the method's own -/
theorem ai_throw_ok {cls : String} (row : ∀ (T : State) (locs : List Loc) (cells slots : Nat) (ls : Array Slot) (st : List Value), Stand p l e R s m args below meth c T locs cells slots → va_S A s.heap T.heap locs → cells + 1 ≤ R.cells → slots + 6 ≤ R.slots → ls.size = c.maxLocals → (st.map fun v => v.category).sum ≤ 8 → ai_thrs p e s below T locs cells slots (F0 m pc ls st) cls)
    {S : List Value} (hwt : ai_wt S ≤ 8) (hR1 : h.2.1 + 1 ≤ kc + R.cells) (hR2 : h.2.2 + 6 ≤ ks + R.slots) :
    ai_W p l e R s m args below meth c (ai_Zp y sa D ad0 A kc ks (.inr cls, h.1, h.2.1 + 1, h.2.2 + 6) below args s) (ai_yZ y) (ai_yN y) sa D (ai_yl y) A ad0 kc ks pc L S h := by
  intro ad tys ws H locs cells slots ls st ha hl hs T hT X
  have hml : ls.size = c.maxLocals := by obtain ⟨_, lv, hlv, _⟩ := hl; exact hlv.1
  have hwT : (st.map fun v => v.category).sum ≤ 8 := by
    have := ai_vs_wt hs
    unfold ai_wt at this hwt
    omega
  obtain ⟨q1, q2, q3, hw, hK, hP, hD, hS⟩ := ha
  obtain ⟨U, ce, q, s1, s2, s3, s4, s5, s6, s7, s8, s9⟩ := row T locs cells slots ls st X (by rw [hT]; exact hS) (by omega) (by omega) hml hwT
  rw [hT] at s5 s6
  refine ⟨U, s1, .threw q, s2, s3, ad, tys, ws, locs, q1, hw, va_K.moved s4.1.alike hK, ?_, hD, ?_, ?_, hS.2.2, q, ce, rfl, s7, s8, s9⟩
  · intro k z hz
    exact (hP k z hz).kept (s6 _ (hP k z hz).lt)
  · exact ⟨Nat.le_trans hS.1 s5, fun z h1 h2 => (s6 z (Nat.lt_of_lt_of_le h1 hS.1)).trans (hS.2.1 z h1 h2)⟩
  · have e1 : h.2.1 + 1 - kc = cells + 1 := by omega
    have e2 : h.2.2 + 6 - ks = slots + 6 := by omega
    show ai_end s U locs (h.2.1 + 1 - kc) (h.2.2 + 6 - ks)
    rw [e1, e2]
    exact s4
end AIR2
end
section
section AICL
variable {p : Program} {l : Launch} {e : Env} {R : Room} {s : State} {m : MethodId} {args : Array Value} {below : List Frame} {meth : Method} {c : Code}
variable {y : ai_Y} {sa : Nat → Nat} {D : va_G} {A : Nat → Prop} {ad0 : List Nat} {kc ks : Nat} {cc : ByteArray} {pc n d : Nat} {L : ai_L} {S : List Value} {h : ai_H} {out out' : ai_O} {TB : List Cond} {M' : ai_M} {own : String} {i : Instr}
theorem ai_take_rev {st : List Value} {n : Nat} : st = ((st.take n).reverse).reverse ++ st.drop n := by
  rw [List.reverse_reverse, List.take_append_drop]
set_option maxHeartbeats 1000000 in
/-- a call: the callee ends as the small machine says, and the caller goes on -/
theorem ai_call_ok (hb : c.code = cc) (hd : decode cc pc = .ok (i, 3)) (hts : ∀ w ∈ TB, w.before args s = true) (hst : ∀ w ∈ TB, ai_st w = true) (hcw : ai_cw (ai_Mn M') (ai_Mb M') (ai_Ml M') (ai_Mr M') (ai_Mx M') ∈ TB) (hini : Cond.initialized (ai_Mn M').cls ∈ TB)
    (hown : s.vm.findClass own = some m.cls) (hA : ∀ q, s.heap.size ≤ q → A q) (hE : ai_E y sa A s s.heap) (hlocks : meth.locks = false)
    (hRf : d + 6 + 1 ≤ R.frames) (hRl : 8 + (ai_Ml M' + 11) + (40 * d + 200) ≤ R.locals) (hle : ai_le h out'.2) (hR1 : out'.2.2.1 ≤ kc + R.cells) (hR2 : out'.2.2.2 ≤ ks + R.slots)
    (hmet : ai_Met l TB y sa D d M' ((S.take n).reverse) h out') (hwt : ai_wt (S.drop n) ≤ 8)
    (hent : ∀ (ad : List Nat) (tys : List (ClassId × FieldType)) (ws : va_W) (T : State) (locs : List Loc) (cells slots : Nat) (ls : Array Slot) (Vs rest : List Value), ai_w (ai_yZ y) (ai_yN y) sa ad tys h.1 ws → va_K D (ai_yl y) tys s → va_P D (ai_yl y) ws T.heap → va_S A s.heap T.heap locs → ai_vs sa ad ((S.take n).reverse) Vs → Stand p l e R s m args below meth c T locs cells slots → ai_enters p l e R s m args below meth c T locs cells slots (F0 m pc ls (Vs.reverse ++ rest)) rest (ai_Mn M') Vs.toArray)
    (hkr : ∀ v, out'.1 = .inl v → ai_W p l e R s m args below meth c (ai_Zp y sa D ad0 A kc ks out below args s) (ai_yZ y) (ai_yN y) sa D (ai_yl y) A ad0 kc ks (pc + 3) L (v.toList ++ S.drop n) out'.2)
    (hkt : ∀ E, out'.1 = .inr E → (∃ x, c.exceptionTable.toList = [x] ∧ covers x pc = true ∧ x.catchType ≠ 0 ∧ (Cond.classLink own x.catchType E).before args s = true ∧ ai_W p l e R s m args below meth c (ai_Zp y sa D ad0 A kc ks out below args s) (ai_yZ y) (ai_yN y) sa D (ai_yl y) A ad0 kc ks x.handlerPc L [.float 0] out'.2) ∨ ((∀ x ∈ c.exceptionTable.toList, covers x pc = false) ∧ out = (.inr E, out'.2))) :
    ai_W p l e R s m args below meth c (ai_Zp y sa D ad0 A kc ks out below args s) (ai_yZ y) (ai_yN y) sa D (ai_yl y) A ad0 kc ks pc L S h := by
  intro ad tys ws H locs cells slots ls st ha hl hs T hT X
  obtain ⟨⟨q0, q1⟩, q2, q3, hw, hK, hP, hD, hS⟩ := ha
  subst hT
  have hml : ls.size = c.maxLocals := by obtain ⟨_, lv, hlv, _⟩ := hl; exact hlv.1
  obtain ⟨hs1, hs2⟩ := ai_vs_split n hs
  have hs3 := ai_vs_rev hs1
  have hst9 : st = ((st.take n).reverse).reverse ++ st.drop n := ai_take_rev
  generalize (st.take n).reverse = Vs at hs3 hst9
  generalize st.drop n = rest at hs2 hst9
  subst hst9
  have hwT : (rest.map fun v => v.category).sum ≤ 8 := by
    have := ai_vs_wt hs2
    unfold ai_wt at this hwt
    omega
  obtain ⟨vm₁, mk, hW₁, X₁, hn, hstep⟩ := hent ad tys ws T locs cells slots ls Vs rest hw hK hP hS hs3 X
  have htab : ∀ (a' : Array Value) (w : Cond), w ∈ TB → w.before a' (T.setVm vm₁) = true := fun a' w hw9 => ai_st_at (hst w hw9) (U := T.setVm vm₁) hW₁ (hts w hw9)
  obtain ⟨mk', methY, cY, hnY, hmY, hcY, -, hlY, -⟩ := ai_cd_of (htab #[] _ hcw)
  cases hn.symm.trans hnY
  have hMF := hmet ad tys ws Vs T.heap.size hw hs3
  have hsub : ∀ q, va_A ws T.heap.size q → A q := by
    intro q hq
    rcases hq with ⟨k, E, hk⟩ | hq
    · exact hD.2 k _ hk
    · exact hA q (Nat.le_trans hS.1 hq)
  have hE1 : ai_E y sa (va_A ws T.heap.size) (T.setVm vm₁) T.heap := ai_E_narrow (ai_E_moved (U := T.setVm vm₁) hW₁ (ai_E_kept hS.1 hE hS.2.1)) hsub
  have hPc : ai_Pc y sa D tys ws Vs T.heap.size Vs.toArray ((T.setVm vm₁).calling (F0 m pc ls rest) mk Vs.toArray) := by
    refine ⟨rfl, rfl, hP, va_K.moved (U := (T.setVm vm₁).calling (F0 m pc ls rest) mk Vs.toArray) hW₁.alike hK, hD.weaken (fun _ _ _ _ => trivial), ?_⟩
    exact ai_E_moved (u := T.setVm vm₁) (U := (T.setVm vm₁).calling (F0 m pc ls rest) mk Vs.toArray) (State.WarmedH.refl (T.setVm vm₁)) hE1
  have hrc : (ai_rm d (out'.2.2.1 - h.2.1) (out'.2.2.2 - h.2.2)).cells = out'.2.2.1 - h.2.1 := rfl
  have hle1 := hle.1
  have hle2 := hle.2
  obtain ⟨o, t, hsteps, hend, hq⟩ := ai_invoke X₁ hMF (g := F0 m pc ls rest) (ig := i) (len := 3) (W9 := 8) rfl hml (by rw [hb]; exact hd) (lv_room hwT) hn hmY hcY hRf
    (by rw [hlY]; exact hRl) (by show cells + (out'.2.2.1 - h.2.1) ≤ R.cells; omega) (by show slots + (out'.2.2.2 - h.2.2) ≤ R.slots; omega) (htab _ _ hini)
    (atoms_intro (ws := ai_ws TB M') fun w hw9 => by
      rcases List.mem_cons.mp hw9 with rfl | hw9
      · exact htab _ _ hcw
      · exact htab _ _ hw9) hPc
  obtain ⟨ad', tys', ws', L', ⟨q', g1⟩, hw', hK', hP', hD', hF', hend', hL', hres⟩ := hq
  have X' := ai_stands X₁ hend'
  have hW2 : (T.setVm vm₁).WarmedH t.vm := hend'.1
  have hal : s.vm.Alike t.vm := hW₁.alike.trans hW2.alike
  have hS' : va_S A s.heap t.heap (locs ++ L') := by
    obtain ⟨z1, z2⟩ := hF'
    refine ⟨Nat.le_trans hS.1 z1, fun q h1 h2 => ?_, fun q hq => ?_⟩
    · exact (z2 q (Nat.lt_of_lt_of_le h1 hS.1) (fun z => h2 (hsub q z))).trans (hS.2.1 q h1 h2)
    · rcases List.mem_append.mp hq with h9 | h9
      · exact hS.2.2 q h9
      · exact hsub _ (hL' q h9)
  have ha' : ai_At s (ai_yZ y) (ai_yN y) sa D (ai_yl y) A ad0 kc ks out'.2 ad' tys' ws' t.heap (locs ++ L') (cells + (out'.2.2.1 - h.2.1)) (slots + (out'.2.2.2 - h.2.2)) :=
    ⟨⟨q0 ++ q', by rw [g1, q1, List.append_assoc]⟩, by omega, by omega, hw', va_K.moved hal.symm hK', hP', hD'.weaken (fun _ _ _ hz => hsub _ hz), hS'⟩
  have hl' : ai_l sa ad' L c.maxLocals ls := by rw [g1]; exact ai_l_more hl q'
  have hs2' : ai_vs sa ad' (S.drop n) rest := by rw [g1]; exact ai_vs_more q' hs2
  rcases hO : out'.1 with v | E
  · have hkr' := hkr v hO
    rw [hO] at hres
    have hgo : ∀ V : Option Value, o = .returned V → ai_vs sa ad' (v.toList ++ S.drop n) (V.toList ++ rest) → ∃ t2, Steps p.tables e below (T.setTop (F0 m pc ls (Vs.reverse ++ rest))) t2 ∧ ai_Zp y sa D ad0 A kc ks out below args s t2 := by
      intro V hV hvs
      rw [hV] at hend
      have ht := ai_returned X₁ (g := F0 m pc ls rest) rfl (by rw [hb]; exact hd) hend' hend
      obtain ⟨t2, a1, b1⟩ := hkr' ad' tys' ws' t.heap (locs ++ L') _ _ ls (V.toList ++ rest) ha' hl' hvs (ai_behind (T.setVm vm₁) t) rfl X'
      refine ⟨t2, hstep t2 (hsteps.trans ?_), b1⟩
      rw [ht]
      exact a1
    cases v with
    | none => exact hgo none hres hs2'
    | some v =>
      obtain ⟨V, h1, h2⟩ := hres
      exact hgo (some V) h1 ⟨h2, hs2'⟩
  · rw [hO] at hres
    obtain ⟨q, ce, rfl, hce, hcv, hcl⟩ := hres
    have ht := ai_thrown X₁ (g := F0 m pc ls rest) rfl hend' hend
    have hcl' : s.vm.findClass E = some ce.cls := by
      have h9 : vm₁.findClass E = some ce.cls := hcl
      rw [hW₁.alike.findClass] at h9
      exact h9
    rcases hkt E hO with ⟨x, t1, t2, t3, t4, t5⟩ | ⟨t1, t2⟩
    · obtain ⟨vm', X'', st''⟩ := ai_caught X' q (g := F0 m pc ls rest) rfl hown t1 t2 t3 t4 hce hcv hcl'
      obtain ⟨t9, a1, b1⟩ := t5 ad' tys' ws' t.heap (locs ++ L') _ _ ls [.ref q] ha' hl' ⟨Or.inr ⟨q, rfl⟩, trivial⟩ ((ai_behind (T.setVm vm₁) t).setVm vm') rfl X''
      refine ⟨t9, hstep t9 (hsteps.trans ?_), b1⟩
      rw [ht]
      exact st'' t9 a1
    · obtain ⟨st1, hrun, hend2, hWW, hsm⟩ := X'.leaveThrown q (g := F0 m pc ls rest) rfl rfl rfl t1 hlocks
      refine ⟨_, hstep _ (hsteps.trans (by rw [ht]; exact st1)), .threw q, hrun, hend2, ?_⟩
      rw [t2]
      exact ai_ended ha' rfl hWW hsm hS'.2.2 ⟨q, ce, rfl, hce, hcv, hcl'⟩
end AICL
end
section
/-! THE TABLES OF A METHOD ARE CHECKED BY PROGRAM: every instruction's link stands among the words TB, at the place that it names. -/
def ai_tb (TB : List Cond) (j : Int) (w : Cond) : Bool := decide (TB[j.toNat]? = some w)
theorem ai_tb_ok {TB : List Cond} {j : Int} {w : Cond} {s : State} {args : Array Value} (hts : ∀ w ∈ TB, w.before args s = true) (h : ai_tb TB j w = true) : w.before args s = true := hts w (List.mem_of_getElem? (of_decide_eq_true h))
/-- where the k-th instruction stands -/
def ai_pcs (M : ai_M) (k : Nat) : Nat := match (ai_Mc M)[k]? with
  | some it => it.1
  | none => 0
def ai_flc (TB : List Cond) (own : String) (idx : Nat) (q : String × String × String × Bool) (j : Int) : Bool := match TB[j.toNat]? with
  | some (.fieldLink o ix c n d) => decide (o = own ∧ ix = idx ∧ c = q.1 ∧ n = q.2.1 ∧ d = q.2.2.1)
  | some (.fieldLinkNest o ix c n d _) => decide (o = own ∧ ix = idx ∧ c = q.1 ∧ n = q.2.1 ∧ d = q.2.2.1)
  | _ => false
theorem ai_flc_ok {TB : List Cond} {own : String} {idx : Nat} {q : String × String × String × Bool} {j : Int} {s : State} {args : Array Value} (hts : ∀ w ∈ TB, w.before args s = true) (h : ai_flc TB own idx q j = true) : ai_fl s args own idx q := by
  unfold ai_flc at h
  split at h
  · rename_i o ix c n d hj
    obtain ⟨rfl, rfl, rfl, rfl, rfl⟩ := of_decide_eq_true h
    exact Or.inl (hts _ (List.mem_of_getElem? hj))
  · rename_i o ix c n d host hj
    obtain ⟨rfl, rfl, rfl, rfl, rfl⟩ := of_decide_eq_true h
    exact Or.inr ⟨host, hts _ (List.mem_of_getElem? hj)⟩
  · cases h
def ai_brc (M : ai_M) (pc : Nat) (off : Int) (len : Nat) (r : ai_R) : Bool := decide (len = 3 ∧ (pc : Int) + off = (ai_pcs M (ai_tgt r) : Int))
def ai_ldc (TB : List Cond) (y : ai_Y) (own : String) (idx : Nat) (r : ai_R) : Bool := match ai_nth r 0 with
  | 1 => ai_tb TB (ai_nth r 2) (.constant own idx (Int32.ofInt (ai_nth r 1)))
  | 2 => (match (ai_ys y)[(ai_nth r 2).toNat]? with
    | some q => decide (q.1 = own ∧ q.2.1 = idx ∧ q.2.2.2 = (ai_nth r 1).toNat)
    | none => false)
  | _ => false
theorem ai_ldc_ok {TB : List Cond} {y : ai_Y} {own : String} {idx : Nat} {r : ai_R} {s : State} {args : Array Value} {sa : Nat → Nat} {A : Nat → Prop} (hts : ∀ w ∈ TB, w.before args s = true) (hE : ai_E y sa A s s.heap) (h : ai_ldc TB y own idx r = true) :
    (ai_nth r 0 = 1 ∧ (Cond.constant own idx (Int32.ofInt (ai_nth r 1))).before args s = true) ∨ (ai_nth r 0 = 2 ∧ ∃ tx, vk_R own idx tx (sa (ai_nth r 1).toNat) s) := by
  unfold ai_ldc at h
  split at h
  · rename_i h0
    exact Or.inl ⟨h0, ai_tb_ok hts h⟩
  · rename_i h0
    split at h
    · rename_i q hq
      obtain ⟨e1, e2, e3⟩ := of_decide_eq_true h
      refine Or.inr ⟨h0, q.2.2.1, ?_⟩
      have := hE.2.1 q (List.mem_of_getElem? hq)
      rw [e1, e2, e3] at this
      exact this
    · cases h
  · cases h
def ai_chk0 (TB : List Cond) (y : ai_Y) (M : ai_M) (pc : Nat) (i : Instr) (len : Nat) (r : ai_R) : Bool := match i with
  | .ldc idx => decide (len = 2) && ai_ldc TB y (ai_Mn M).cls idx r
  | .ldc_w idx => decide (len = 3) && ai_ldc TB y (ai_Mn M).cls idx r
  | .getstatic idx => decide (len = 3) && (match (ai_yf y)[(ai_nth r 2).toNat]? with
    | some q => ai_flc TB (ai_Mn M).cls idx (q.1, q.2.1, q.2.2.1, false) (ai_nth r 3) && decide ((ai_nth r 0 = 1 ∧ q.2.2.2 = .int (Int32.ofInt (ai_nth r 1))) ∨ (ai_nth r 0 = 2 ∧ q.2.2.2 = .retAddr (ai_nth r 1).toNat) ∨ (ai_nth r 0 = 3 ∧ q.2.2.2 = .float 0))
    | none => false)
  | .getfield idx => decide (len = 3) && (match (ai_yl y)[(ai_nth r 0).toNat]? with
    | some q => decide ((ai_nth r 1).toNat < q.2.2) && ai_flc TB (ai_Mn M).cls idx (q.2.1 (ai_nth r 1).toNat) (ai_nth r 2)
    | none => ai_flc TB (ai_Mn M).cls idx ((ai_yc y (ai_nth r 0).toNat).2 (ai_nth r 1).toNat) (ai_nth r 2))
  | .putfield idx => decide (len = 3) && (match (ai_yl y)[(ai_nth r 0).toNat]? with
    | some q => decide ((ai_nth r 1).toNat < q.2.2) && (ai_tb TB (ai_nth r 2) (.fieldLink (ai_Mn M).cls idx (q.2.1 (ai_nth r 1).toNat).1 (q.2.1 (ai_nth r 1).toNat).2.1 (q.2.1 (ai_nth r 1).toNat).2.2.1) && decide ((q.2.1 (ai_nth r 1).toNat).2.2.2 = false ∨ ((ai_Mn M).name = "<init>" ∧ (q.2.1 (ai_nth r 1).toNat).1 = (ai_Mn M).cls)))
    | none => false)
  | .new idx => decide (len = 3) && (match (ai_yl y)[(ai_nth r 0).toNat]? with
    | some q => ai_tb TB (ai_nth r 1) (.classLink (ai_Mn M).cls idx q.1) && (ai_tb TB (ai_nth r 2) (.instantiable q.1 q.2.2) && ai_tb TB (ai_nth r 3) (.initialized q.1))
    | none => false)
  | .newarray t => decide (len = 2) && (decide (newarray.typeOf t = .int ∨ newarray.typeOf t = .byte ∨ newarray.typeOf t = .short ∨ newarray.typeOf t = .long) && ai_tb TB (ai_nth r 0) (.arrayClass (newarray.typeOf t)))
  | .anewarray idx => decide (len = 3) && (ai_tb TB (ai_nth r 0) (.classLink (ai_Mn M).cls idx r.2.2) && decide (r.2.2 = "QueryReader$Sort" ∨ r.2.2 = "java/lang/String"))
  | .instanceof idx => decide (len = 3) && ai_tb TB (ai_nth r 0) (.classLink (ai_Mn M).cls idx r.2.2)
  | .checkcast idx => decide (len = 3) && ai_tb TB (ai_nth r 0) (.classLink (ai_Mn M).cls idx r.2.2)
  | .ifCond _ off => ai_brc M pc off len r
  | .if_icmp _ off => ai_brc M pc off len r
  | .if_acmp _ off => ai_brc M pc off len r
  | .ifnull off => ai_brc M pc off len r
  | .ifnonnull off => ai_brc M pc off len r
  | .goto off => ai_brc M pc off len r
  | .tableswitch d lo hi offs => decide ((pc : Int) + d = (ai_pcs M (ai_tgt r) : Int)) && (List.range ((hi - lo).toNat + 1)).all (fun j => match offs[j]? with
    | some off => decide ((pc : Int) + off = (ai_pcs M (ai_nth r (j + 1)).toNat : Int))
    | none => false)
  | .iinc _ _ => decide (len = 3)
  | .sipush _ => decide (len = 3)
  | .bipush _ => decide (len = 2)
  | .iload _ => decide (len = 2)
  | .aload _ => decide (len = 2)
  | .istore _ => decide (len = 2)
  | .astore _ => decide (len = 2)
  | _ => decide (len = 1)
theorem ai_chk0_ok {TB : List Cond} {y : ai_Y} {M : ai_M} {pc : Nat} {i : Instr} {len : Nat} {r : ai_R} {s : State} {args : Array Value} {meth : Method} {sa : Nat → Nat} {A : Nat → Prop} (hts : ∀ w ∈ TB, w.before args s = true) (hE : ai_E y sa A s s.heap) (hnm : meth.name = (ai_Mn M).name)
    (h : ai_chk0 TB y M pc i len r = true) : ai_lk s args meth (ai_Mn M).cls sa A (ai_yc y) (ai_yl y) (ai_pcs M) pc i len r := by
  cases i with
  | ldc idx => rw [ai_chk0, Bool.and_eq_true] at h; exact ⟨of_decide_eq_true h.1, ai_ldc_ok hts hE h.2⟩
  | ldc_w idx => rw [ai_chk0, Bool.and_eq_true] at h; exact ⟨of_decide_eq_true h.1, ai_ldc_ok hts hE h.2⟩
  | getstatic idx =>
    rw [ai_chk0, Bool.and_eq_true] at h
    obtain ⟨h1, h2⟩ := h
    split at h2
    · rename_i q hq
      rw [Bool.and_eq_true] at h2
      obtain ⟨V, g1, g2⟩ := hE.2.2.1 q (List.mem_of_getElem? hq)
      refine ⟨of_decide_eq_true h1, q.1, q.2.1, q.2.2.1, V, g2, ai_flc_ok hts h2.1, ?_⟩
      rcases of_decide_eq_true h2.2 with ⟨z1, z2⟩ | ⟨z1, z2⟩ | ⟨z1, z2⟩
      · rw [z2] at g1; exact Or.inl ⟨z1, g1⟩
      · rw [z2] at g1; exact Or.inr (Or.inl ⟨z1, g1⟩)
      · rw [z2] at g1; exact Or.inr (Or.inr ⟨z1, g1⟩)
    · cases h2
  | getfield idx =>
    rw [ai_chk0, Bool.and_eq_true] at h
    obtain ⟨h1, h2⟩ := h
    refine ⟨of_decide_eq_true h1, fun q hq => ?_, fun hq => ?_⟩
    · rw [hq] at h2
      simp only [Bool.and_eq_true] at h2
      exact ⟨of_decide_eq_true h2.1, ai_flc_ok hts h2.2⟩
    · rw [hq] at h2
      exact ai_flc_ok hts h2
  | putfield idx =>
    rw [ai_chk0, Bool.and_eq_true] at h
    obtain ⟨h1, h2⟩ := h
    split at h2
    · rename_i q hq
      simp only [Bool.and_eq_true] at h2
      refine ⟨of_decide_eq_true h1, q, hq, of_decide_eq_true h2.1, ai_tb_ok hts h2.2.1, ?_⟩
      rw [hnm]
      exact of_decide_eq_true h2.2.2
    · cases h2
  | new idx =>
    rw [ai_chk0, Bool.and_eq_true] at h
    obtain ⟨h1, h2⟩ := h
    split at h2
    · rename_i q hq
      simp only [Bool.and_eq_true] at h2
      exact ⟨of_decide_eq_true h1, q, hq, ai_tb_ok hts h2.1, ai_tb_ok hts h2.2.1, ai_tb_ok hts h2.2.2⟩
    · cases h2
  | newarray t =>
    rw [ai_chk0, Bool.and_eq_true, Bool.and_eq_true] at h
    obtain ⟨h1, h2, h3⟩ := h
    refine ⟨of_decide_eq_true h1, ?_, ai_tb_ok hts h3⟩
    rcases of_decide_eq_true h2 with z | z | z | z
    · exact Or.inl (Or.inl z)
    · exact Or.inl (Or.inr (Or.inl z))
    · exact Or.inl (Or.inr (Or.inr (Or.inl z)))
    · exact Or.inr z
  | anewarray idx =>
    rw [ai_chk0, Bool.and_eq_true, Bool.and_eq_true] at h
    obtain ⟨h1, h2, h3⟩ := h
    refine ⟨of_decide_eq_true h1, ai_tb_ok hts h2, ?_⟩
    rcases of_decide_eq_true h3 with z | z
    · rw [z]; exact hE.2.2.2.2.1
    · rw [z]; exact hE.2.2.2.2.2
  | instanceof idx => rw [ai_chk0, Bool.and_eq_true] at h; exact ⟨of_decide_eq_true h.1, ai_tb_ok hts h.2⟩
  | checkcast idx => rw [ai_chk0, Bool.and_eq_true] at h; exact ⟨of_decide_eq_true h.1, ai_tb_ok hts h.2⟩
  | ifCond c off => exact (show len = 3 ∧ (pc : Int) + off = (ai_pcs M (ai_tgt r) : Int) from of_decide_eq_true h)
  | if_icmp c off => exact (show len = 3 ∧ (pc : Int) + off = (ai_pcs M (ai_tgt r) : Int) from of_decide_eq_true h)
  | if_acmp c off => exact (show len = 3 ∧ (pc : Int) + off = (ai_pcs M (ai_tgt r) : Int) from of_decide_eq_true h)
  | ifnull off => exact (show len = 3 ∧ (pc : Int) + off = (ai_pcs M (ai_tgt r) : Int) from of_decide_eq_true h)
  | ifnonnull off => exact (show len = 3 ∧ (pc : Int) + off = (ai_pcs M (ai_tgt r) : Int) from of_decide_eq_true h)
  | goto off => exact (show len = 3 ∧ (pc : Int) + off = (ai_pcs M (ai_tgt r) : Int) from of_decide_eq_true h)
  | tableswitch d lo hi offs =>
    rw [ai_chk0, Bool.and_eq_true] at h
    refine ⟨of_decide_eq_true h.1, fun j hj => ?_⟩
    have h2 := List.all_eq_true.mp h.2 j (List.mem_range.mpr (by omega))
    split at h2
    · rename_i off ho
      exact ⟨off, ho, of_decide_eq_true h2⟩
    · cases h2
  | iinc _ _ => exact (show len = 3 from of_decide_eq_true h)
  | sipush _ => exact (show len = 3 from of_decide_eq_true h)
  | bipush _ => exact (show len = 2 from of_decide_eq_true h)
  | iload _ => exact (show len = 2 from of_decide_eq_true h)
  | aload _ => exact (show len = 2 from of_decide_eq_true h)
  | istore _ => exact (show len = 2 from of_decide_eq_true h)
  | astore _ => exact (show len = 2 from of_decide_eq_true h)
  | _ => exact (show len = 1 from of_decide_eq_true h)
end
section
def ai_ar (x : MethodName) (n : Nat) : Bool := decide ((parseMethodDescriptor x.desc).map (fun d => d.parameters.length) = some n)
theorem ai_ar_ok {x : MethodName} {n : Nat} (h : ai_ar x n = true) : ∀ sig, parseMethodDescriptor x.desc = some sig → n = sig.parameters.length := by
  intro sig hs
  have := of_decide_eq_true h
  rw [hs] at this
  exact (Option.some.inj this).symm
/-- a call of M' -/
def ai_chk1 (TB : List Cond) (y : ai_Y) (M M' : ai_M) (i : Instr) (len : Nat) (r : ai_R) : Bool :=
  decide (len = 3) && (match i with
  | .invokevirtual idx => decide (ai_nth r 2 = 1 ∧ 1 ≤ (ai_nth r 1).toNat) && (ai_tb TB (ai_nth r 6) (.instanceMethod (ai_Mn M')) && (match TB[(ai_nth r 4).toNat]? with
    | some (.methodLink o ix x) => decide (o = (ai_Mn M).cls ∧ ix = idx) && (ai_tb TB (ai_nth r 5) (.selects (ai_yc y (ai_nth r 3).toNat).1 x (ai_Mn M')) && (ai_ar x ((ai_nth r 1).toNat - 1) && (decide (x = ai_Mn M') || (ai_tb TB (ai_nth r 7) (.sameMethod x.cls (ai_Mn M').cls x.name x.desc) && ai_tb TB (ai_nth r 8) (.declares ⟨(ai_Mn M').cls, x.name, x.desc⟩)))))
    | _ => false))
  | .invokestatic idx => decide (ai_nth r 2 = 0) && (ai_tb TB (ai_nth r 4) (.methodLink (ai_Mn M).cls idx (ai_Mn M')) && (ai_tb TB (ai_nth r 5) (.static (ai_Mn M')) && ai_ar (ai_Mn M') (ai_nth r 1).toNat))
  | .invokespecial idx => decide (ai_nth r 2 = 2 ∧ 1 ≤ (ai_nth r 1).toNat ∧ (ai_Mn M').name = "<init>" ∧ ai_Mx M' = [] ∧ ai_Mr M' = none) && (ai_tb TB (ai_nth r 5) (.instanceMethod (ai_Mn M')) && (ai_ar (ai_Mn M') ((ai_nth r 1).toNat - 1) && (match TB[(ai_nth r 4).toNat]? with
    | some (.methodLink o ix x) => decide (o = (ai_Mn M).cls ∧ ix = idx ∧ x = ai_Mn M')
    | some (.methodLinkNest o ix x _) => decide (o = (ai_Mn M).cls ∧ ix = idx ∧ x = ai_Mn M')
    | _ => false)))
  | _ => false)
/-- a method that may be called: its code stands in the tables -/
def ai_okC (TB : List Cond) (M : ai_M) : Prop := ai_cw (ai_Mn M) (ai_Mb M) (ai_Ml M) (ai_Mr M) (ai_Mx M) ∈ TB ∧ Cond.initialized (ai_Mn M).cls ∈ TB ∧ ai_Ml M ≤ 20 ∧ (ai_Mn M).cls ≠ "java/lang/invoke/MethodHandle" ∧ (ai_Mn M).cls ≠ "java/lang/invoke/VarHandle"
/-- the exceptions' classes above those that are thrown -/
def ai_up : List String := ["java/lang/RuntimeException", "java/lang/Exception"]
def ai_xw (TB : List Cond) (y : ai_Y) (ws : List Cond) : Bool := ws.all (fun w => decide (w ∈ TB) || decide (w ∈ ai_yw y))
/-- a throw: numbers: entry of the constructor, entry of the text and its length (0: no text), where the text stands, places of two words -/
def ai_chk2 (TB : List Cond) (y : ai_Y) (M : ai_M) (pc : Nat) (i : Instr) (r : ai_R) : Bool := match i with
  | .new ik => ai_tb TB (ai_nth r 4) (.classLink (ai_Mn M).cls ik r.2.2) && (ai_tb TB (ai_nth r 5) (.initialized r.2.2) && (Bundle.fit r.2.2 && (decide (decode (ai_Mb M) (pc + 3) = .ok (.dup, 1)) &&
    (if ai_nth r 2 = 0 then
      decide (decode (ai_Mb M) (pc + 4) = .ok (.invokespecial (ai_nth r 0).toNat, 3)) && (decide (decode (ai_Mb M) (pc + 7) = .ok (.athrow, 1)) && ai_xw TB y (Bundle.ownAtoms0 (ai_Mn M).cls (ai_nth r 0).toNat r.2.2 ai_up))
    else
      decide ((decode (ai_Mb M) (pc + 4) = .ok (.ldc (ai_nth r 1).toNat, 2) ∧ ai_nth r 2 = 2) ∨ (decode (ai_Mb M) (pc + 4) = .ok (.ldc_w (ai_nth r 1).toNat, 3) ∧ ai_nth r 2 = 3)) && (decide (decode (ai_Mb M) (pc + 4 + (ai_nth r 2).toNat) = .ok (.invokespecial (ai_nth r 0).toNat, 3)) && (decide (decode (ai_Mb M) (pc + 4 + (ai_nth r 2).toNat + 3) = .ok (.athrow, 1)) && (ai_xw TB y (Bundle.ownAtoms (ai_Mn M).cls (ai_nth r 0).toNat r.2.2 ai_up) &&
        (match (ai_ys y)[(ai_nth r 3).toNat]? with
        | some q => decide (q.1 = (ai_Mn M).cls ∧ q.2.1 = (ai_nth r 1).toNat)
        | none => false))))))))
  | _ => false
def ai_chk3 (TB : List Cond) (M : ai_M) (i : Instr) (len : Nat) (r : ai_R) : Bool := match i with
  | .invokespecial idx => decide (len = 3) && (ai_tb TB (ai_nth r 0) (.methodLink (ai_Mn M).cls idx Lib.objectInit) && (ai_tb TB (ai_nth r 1) (.instanceMethod Lib.objectInit) && ai_tb TB (ai_nth r 2) (.code Lib.objectInit ⟨#[0xb1]⟩ 1 none)))
  | _ => false
def ai_chk4 (TB : List Cond) (M : ai_M) (i : Instr) (len : Nat) (r : ai_R) : Bool := match i with
  | .invokestatic idx => decide (len = 3) && (ai_tb TB (ai_nth r 0) (.methodLink (ai_Mn M).cls idx arraycopyName) && (ai_tb TB (ai_nth r 1) (.native arraycopyName) && (ai_tb TB (ai_nth r 2) (.static arraycopyName) && ai_tb TB (ai_nth r 3) (.initialized "java/lang/System"))))
  | _ => false
def ai_isro (t : Option FieldType) : Bool := match t with
  | some (.object _) => true
  | some (.array _) => true
  | _ => false
/-- the k-th instruction -/
def ai_chk (TB : List Cond) (y : ai_Y) (P : Nat → Option ai_M) (M : ai_M) (it : ai_I) : Bool := match it.2.2.2.1 with
  | 0 => ai_chk0 TB y M it.1 it.2.1 it.2.2.1 it.2.2.2
  | 1 => (match P (ai_nth it.2.2.2 0).toNat with
    | some M' => ai_chk1 TB y M M' it.2.1 it.2.2.1 it.2.2.2
    | none => false)
  | 2 => decide (it.2.2.1 = 3) && ai_chk2 TB y M it.1 it.2.1 it.2.2.2
  | 3 => ai_chk3 TB M it.2.1 it.2.2.1 it.2.2.2
  | 4 => ai_chk4 TB M it.2.1 it.2.2.1 it.2.2.2
  | 5 => decide (it.2.1 = .ireturn ∧ it.2.2.1 = 1)
  | 6 => decide (it.2.1 = .areturn ∧ it.2.2.1 = 1) && ai_isro (ai_Mr M)
  | 7 => decide (it.2.1 = .return_ ∧ it.2.2.1 = 1 ∧ ai_Mr M = none)
  | _ => true
/-- each instruction stands behind the one before -/
def ai_row : List ai_I → Bool
  | a :: b :: t => decide (b.1 = a.1 + a.2.2.1) && ai_row (b :: t)
  | _ => true
theorem ai_row_ok : ∀ {l : List ai_I} {k : Nat} {a b : ai_I}, ai_row l = true → l[k]? = some a → l[k + 1]? = some b → b.1 = a.1 + a.2.2.1
  | [], k, a, b, _, h, _ => by simp at h
  | [x], k, a, b, _, _, h => by simp at h
  | x :: z :: t, 0, a, b, hr, h1, h2 => by
    simp at h1 h2
    subst h1; subst h2
    rw [ai_row, Bool.and_eq_true] at hr
    exact of_decide_eq_true hr.1
  | x :: z :: t, k + 1, a, b, hr, h1, h2 => by
    rw [ai_row, Bool.and_eq_true] at hr
    rw [List.getElem?_cons_succ] at h1 h2
    exact ai_row_ok (l := z :: t) hr.2 h1 h2
/-- what a method catches: at most one row -/
def ai_chx (TB : List Cond) (M : ai_M) : Bool := match ai_Mx M with
  | [] => (ai_Mh M).isEmpty
  | [q] => (match ai_Mh M with
    | [z] => decide (ai_pcs M z.2.2.1 = q.2.2.1 ∧ q.2.2.2 ≠ 0) && (decide (Cond.classLink (ai_Mn M).cls q.2.2.2 z.2.2.2 ∈ TB) && (List.range (ai_Mc M).length).all (fun k => ai_cov k z == (decide (q.1 ≤ ai_pcs M k) && decide (ai_pcs M k < q.2.1))))
    | _ => false)
  | _ => false
def ai_dec (M : ai_M) : Bool := (ai_Mc M).all (fun it => decide (decode (ai_Mb M) it.1 = .ok (it.2.1, it.2.2.1)))
theorem ai_dec_ok {M : ai_M} {k : Nat} {it : ai_I} (h : ai_dec M = true) (hk : (ai_Mc M)[k]? = some it) : decode (ai_Mb M) it.1 = .ok (it.2.1, it.2.2.1) := by
  have h1 := List.all_eq_true.mp h it (List.mem_of_getElem? hk)
  exact of_decide_eq_true h1
/-- all of a method -/
def ai_okM (TB : List Cond) (y : ai_Y) (P : Nat → Option ai_M) (M : ai_M) : Prop := ai_dec M = true ∧ (ai_Mc M).all (ai_chk TB y P M) = true ∧ ai_row (ai_Mc M) = true ∧ ai_chx TB M = true ∧ plainName (ai_Mn M).cls = true ∧ (ai_Mc M)[0]?.map (fun it => it.1) = some 0
/-- all of the program's tables -/
def ai_okY (TB : List Cond) (y : ai_Y) (sa : Nat → Nat) : Prop := (∀ w ∈ TB, ai_st w = true) ∧ ai_clok TB (ai_yl y) (ai_yt y) ∧ ai_dok (ai_yl y) (ai_yt y) (ai_yG y).2.2.1 ∧ ((ai_yG y).2.2.2 = fun ci k v => ai_fit (ai_yt y ci k) v) ∧ (∀ ci, ai_yN y ci = (ai_yc y ci).1) ∧ (∀ j ci fs, ai_yZ y j = some (ai_obj ci fs) → (ai_yl y)[ci]? = none) ∧ (∀ i j, (∃ x, ai_yZ y i = some x) → (∃ x, ai_yZ y j = some x) → sa i = sa j → i = j) ∧ (∀ ci q, (ai_yl y)[ci]? = some q → q.1 = (ai_yc y ci).1)
end
section
section AIEN
variable {p : Program} {l : Launch} {e : Env} {R : Room} {s : State} {m : MethodId} {args : Array Value} {below : List Frame} {meth : Method} {c : Code}
variable {y : ai_Y} {sa : Nat → Nat} {D : va_G} {A : Nat → Prop} {pc n : Nat} {S : List Value} {h : ai_H} {TB : List Cond} {M M' : ai_M} {i : Instr} {len : Nat} {r : ai_R}
/-- the receiver is an object of the class -/
theorem ai_rcv_ok (hY : ai_okY TB y sa) (hE : ai_E y sa A s s.heap) {v V : Value} {ad : List Nat} {tys : List (ClassId × FieldType)} {ws : va_W} {H : Heap} {locs : List Loc} (hw : ai_w (ai_yZ y) (ai_yN y) sa ad tys h.1 ws) (hK : va_K D (ai_yl y) tys s) (hP : va_P D (ai_yl y) ws H) (hS : va_S A s.heap H locs)
    (h2 : ai_nth r 2 = 1) (hr : ai_rcv (ai_yZ y) r (some v) h = true) (hv : ai_v sa ad v V) : ∃ b, V = .ref b ∧ ∃ cell : Cell, H[b]? = some cell ∧ cell.vm.isStatics = false ∧ s.vm.findClass (ai_yc y (ai_nth r 3).toNat).1 = some cell.cls := by
  unfold ai_rcv at hr
  rw [h2] at hr
  have hr : (match ai_look (ai_yZ y) h.1 v with
    | some (.inr (.inr (.inr (ci, _)))) => decide ((ci : Int) = ai_nth r 3)
    | _ => false) = true := hr
  split at hr
  · rename_i ci fs hlook
    have hci : (ai_nth r 3).toNat = ci := by
      have := of_decide_eq_true hr
      omega
    rw [hci]
    cases v with
    | ref j =>
      obtain ⟨a, E, rfl, g1, vs, rfl, g2⟩ := ai_w_at hw hlook hv
      obtain ⟨q, hq, -⟩ := hP j _ g1
      obtain ⟨cell, z1, z2, z3⟩ := va_recv hK hP hq g1
      refine ⟨a, rfl, cell, z1, z2, ?_⟩
      rw [← hY.2.2.2.2.2.2.2 ci q hq]
      exact z3
    | retAddr j =>
      refine ⟨sa j, hv, ?_⟩
      obtain ⟨hO, -⟩ := hE.1 j _ hlook
      obtain ⟨cellV, o1, o2, o3, -⟩ := va_O.kept hO hS.2.1
      exact ⟨cellV, o1, o2, o3⟩
    | _ => cases hlook
  · cases hr
set_option maxHeartbeats 1000000 in
theorem ai_ent_ok (hY : ai_okY TB y sa) (hx : p.tables.exec = Jvm.exec) (hb : c.code = ai_Mb M) (hd : decode (ai_Mb M) pc = .ok (i, len)) (hts : ∀ w ∈ TB, w.before args s = true) (hown : s.vm.findClass (ai_Mn M).cls = some m.cls) (hE : ai_E y sa A s s.heap)
    (hC : ai_okC TB M') (hc : ai_chk1 TB y M M' i len r = true) (hn : n = (ai_nth r 1).toNat) (hlen : n ≤ S.length) (hrv : ai_rcv (ai_yZ y) r ((S.take n).reverse).head? h = true) :
    ∀ (ad : List Nat) (tys : List (ClassId × FieldType)) (ws : va_W) (T : State) (locs : List Loc) (cells slots : Nat) (ls : Array Slot) (Vs rest : List Value), ai_w (ai_yZ y) (ai_yN y) sa ad tys h.1 ws → va_K D (ai_yl y) tys s → va_P D (ai_yl y) ws T.heap → va_S A s.heap T.heap locs → ai_vs sa ad ((S.take n).reverse) Vs → Stand p l e R s m args below meth c T locs cells slots → ai_enters p l e R s m args below meth c T locs cells slots (F0 m pc ls (Vs.reverse ++ rest)) rest (ai_Mn M') Vs.toArray := by
  intro ad tys ws T locs cells slots ls Vs rest hw hK hP hS hvs X
  have hlV : Vs.length = n := by
    rw [ai_vs_len hvs, List.length_reverse, List.length_take]
    omega
  unfold ai_chk1 at hc
  simp only [Bool.and_eq_true] at hc
  obtain ⟨c1, c6⟩ := hc
  have hlen3 : len = 3 := of_decide_eq_true c1
  subst hlen3
  have hcd : ai_cd s (ai_Mn M') (ai_Mb M') (ai_Ml M') (ai_Mr M') (ai_Mx M') := ai_cd_of (hts _ hC.1)
  have hmh : (ai_Mn M').cls ≠ "java/lang/invoke/MethodHandle" ∧ (ai_Mn M').cls ≠ "java/lang/invoke/VarHandle" := hC.2.2.2
  have hini := hts _ hC.2.1
  generalize hAs : (S.take n).reverse = As at hvs hrv
  cases i with
  | invokevirtual idx =>
    simp only [Bool.and_eq_true] at c6
    obtain ⟨d1, d2, d3⟩ := c6
    obtain ⟨d1, d0⟩ := of_decide_eq_true d1
    have hin := ai_tb_ok hts d2
    cases As with
    | nil =>
      have : Vs.length = 0 := by rw [ai_vs_nil hvs]; rfl
      omega
    | cons v0 As' =>
      obtain ⟨V0, Vs', rfl, hv0, hvs'⟩ := ai_vs_cons hvs
      obtain ⟨b, rfl, cell, z1, z2, z3⟩ := ai_rcv_ok hY hE hw hK hP hS d1 hrv hv0
      have hl' : Vs'.length = (ai_nth r 1).toNat - 1 := by
        simp only [List.length_cons] at hlV
        omega
      have hstk : (F0 m pc ls ((Value.ref b :: Vs').reverse ++ rest)).stack = Vs'.reverse ++ .ref b :: rest := by
        show (Value.ref b :: Vs').reverse ++ rest = _
        rw [List.reverse_cons, List.append_assoc]
        rfl
      split at d3
      · rename_i o ix x hj
        simp only [Bool.and_eq_true] at d3
        obtain ⟨e1, e2, e3, e4⟩ := d3
        obtain ⟨rfl, rfl⟩ := of_decide_eq_true e1
        have hlk := hts _ (List.mem_of_getElem? hj)
        have hsel := ai_tb_ok hts e2
        have har : ∀ sig, parseMethodDescriptor x.desc = some sig → Vs'.length = sig.parameters.length := fun sig hs => by rw [hl']; exact ai_ar_ok e3 sig hs
        rw [Bool.or_eq_true] at e4
        rcases e4 with e4 | e4
        · have hxe : x = ai_Mn M' := of_decide_eq_true e4
          subst hxe
          exact ai_enterV X hx hown hlk hin hsel hcd hmh z1 z2 z3 rfl har hstk (by rw [hb]; exact hd)
        · rw [Bool.and_eq_true] at e4
          exact ai_enterU X hx hown hlk (ai_tb_ok hts e4.1) (by obtain ⟨r0, r1, h1, h2, h3, h4⟩ := Cond.declares_spec (ai_tb_ok hts e4.2); exact ⟨r0, r1, h1, h2, h3, h4⟩) hmh hsel hin z1 z2 z3 rfl har hstk (by rw [hb]; exact hd)
      · cases d3
  | invokestatic idx =>
    simp only [Bool.and_eq_true] at c6
    obtain ⟨d1, d2, d3, d4⟩ := c6
    exact ai_enterS X hx hown (ai_tb_ok hts d2) (ai_tb_ok hts d3) hini hcd hmh rfl (fun sig hs => by rw [hlV, hn]; exact ai_ar_ok d4 sig hs) rfl (by rw [hb]; exact hd)
  | invokespecial idx =>
    simp only [Bool.and_eq_true] at c6
    obtain ⟨d1, d2, d3, d4⟩ := c6
    obtain ⟨d1, d0, dn, dx, dr⟩ := of_decide_eq_true d1
    have hin := ai_tb_ok hts d2
    cases As with
    | nil =>
      have : Vs.length = 0 := by rw [ai_vs_nil hvs]; rfl
      omega
    | cons v0 As' =>
      obtain ⟨V0, Vs', rfl, hv0, hvs'⟩ := ai_vs_cons hvs
      have hb0 : ∃ b, V0 = .ref b := by
        unfold ai_rcv at hrv
        rw [d1] at hrv
        cases v0 with
        | ref j => obtain ⟨a, -, rfl⟩ := hv0; exact ⟨a, rfl⟩
        | _ => cases hrv
      obtain ⟨b, rfl⟩ := hb0
      have hl' : Vs'.length = (ai_nth r 1).toNat - 1 := by
        simp only [List.length_cons] at hlV
        omega
      have hstk : (F0 m pc ls ((Value.ref b :: Vs').reverse ++ rest)).stack = Vs'.reverse ++ .ref b :: rest := by
        show (Value.ref b :: Vs').reverse ++ rest = _
        rw [List.reverse_cons, List.append_assoc]
        rfl
      have hcode : (Cond.code (ai_Mn M') (ai_Mb M') (ai_Ml M') none).before args s = true := by
        have := hts _ hC.1
        rw [dx, dr] at this
        exact this
      have hlk : (Cond.methodLink (ai_Mn M).cls idx (ai_Mn M')).before args s = true ∨ ∃ host, (Cond.methodLinkNest (ai_Mn M).cls idx (ai_Mn M') host).before args s = true := by
        split at d4
        · rename_i o ix x hj
          obtain ⟨rfl, rfl, rfl⟩ := of_decide_eq_true d4
          exact Or.inl (hts _ (List.mem_of_getElem? hj))
        · rename_i o ix x host hj
          obtain ⟨rfl, rfl, rfl⟩ := of_decide_eq_true d4
          exact Or.inr ⟨host, hts _ (List.mem_of_getElem? hj)⟩
        · cases d4
      exact ai_enterI X hx hown dn hlk hin hcode hmh rfl (fun sig hs => by rw [hl']; exact ai_ar_ok d3 sig hs) hstk (by rw [hb]; exact hd)
  | _ => cases c6
/-- the words of a throw, where the heap is as it is now -/
theorem ai_xw_ok (hY : ai_okY TB y sa) (hts : ∀ w ∈ TB, w.before args s = true) (hE : ai_E y sa A s s.heap) {T : State} {locs : List Loc} (hS : va_S A s.heap T.heap locs) {ws : List Cond} (h : ai_xw TB y ws = true) : ∀ w ∈ ws, w.before args (ai_now s m args below T) = true := by
  intro w hw
  have h1 := List.all_eq_true.mp h w hw
  rw [Bool.or_eq_true] at h1
  rcases h1 with h1 | h1
  · have hm : w ∈ TB := of_decide_eq_true h1
    exact ai_st_at (hY.1 w hm) (U := ai_now s m args below T) (State.WarmedH.refl s) (hts w hm)
  · exact hE.2.2.2.1 w (of_decide_eq_true h1) (ai_now s m args below T) args (Vm.Alike.refl _) hS.2.1
theorem ai_thr_ok (hY : ai_okY TB y sa) (hx : p.tables.exec = Jvm.exec) (hb : c.code = ai_Mb M) (hd : decode (ai_Mb M) pc = .ok (i, len)) (hts : ∀ w ∈ TB, w.before args s = true) (hown : s.vm.findClass (ai_Mn M).cls = some m.cls) (hE : ai_E y sa A s s.heap) (hlocks : meth.locks = false) (hl : l.stackTraces = false) (htab : c.exceptionTable.toList = [])
    (hRf : 7 ≤ R.frames) (hRl : 200 ≤ R.locals) (hc : ai_chk2 TB y M pc i r = true) (hlen : len = 3) :
    ∀ (T : State) (locs : List Loc) (cells slots : Nat) (ls : Array Slot) (st : List Value), Stand p l e R s m args below meth c T locs cells slots → va_S A s.heap T.heap locs → cells + 1 ≤ R.cells → slots + 6 ≤ R.slots → ls.size = c.maxLocals → (st.map fun v => v.category).sum ≤ 8 → ai_thrs p e s below T locs cells slots (F0 m pc ls st) r.2.2 := by
  intro T locs cells slots ls st X hS hR1 hR2 hsz hwt
  subst hlen
  cases i with
  | new ik =>
    simp only [ai_chk2, Bool.and_eq_true] at hc
    obtain ⟨c1, c2, c3, c4, c5⟩ := hc
    have up : ∀ w ∈ TB, w.before args (ai_now s m args below T) = true := fun w hm => ai_st_at (hY.1 w hm) (U := ai_now s m args below T) (State.WarmedH.refl s) (hts w hm)
    have hup : ∀ n ∈ ai_up, Bundle.fit n = true := by decide +kernel
    split at c5
    · simp only [Bool.and_eq_true] at c5
      obtain ⟨e1, e2, e3⟩ := c5
      exact ai_throw0 (names := ai_up) X hx hb hl hown c3 hup (ai_tb_ok up c1) (ai_tb_ok up c2) (ai_xw_ok hY hts hE hS e3) hsz hd (of_decide_eq_true c4) (of_decide_eq_true e1) (of_decide_eq_true e2) (fun x hx9 => by rw [htab] at hx9; cases hx9) (by show 2 + 3 < R.frames; omega) (by show _ + (13 * (2 + 1) + 43) ≤ R.locals; omega) hR1 hR2 hlocks
    · simp only [Bool.and_eq_true] at c5
      obtain ⟨e1, e2, e3, e4, e5⟩ := c5
      split at e5
      · rename_i q hq
        obtain ⟨f1, f2⟩ := of_decide_eq_true e5
        have hstr := hE.2.1 q (List.mem_of_getElem? hq)
        rw [f1, f2] at hstr
        have hstr2 : vk_R (ai_Mn M).cls (ai_nth r 1).toNat q.2.2.1 (sa q.2.2.2) (ai_now s m args below T) := vk_R.same rfl hstr
        refine ai_throwS (names := ai_up) (ln := (ai_nth r 2).toNat) X hx hb hl hown c3 hup (ai_tb_ok up c1) (ai_tb_ok up c2) hstr2 (ai_xw_ok hY hts hE hS e4) hsz hd (of_decide_eq_true c4) ?_ (of_decide_eq_true e2) (of_decide_eq_true e3) (fun x hx9 => by rw [htab] at hx9; cases hx9) (by show 2 + 3 < R.frames; omega) (by show _ + (13 * (2 + 1) + 43) ≤ R.locals; omega) hR1 hR2 hlocks
        rcases of_decide_eq_true e1 with ⟨g1, g2⟩ | ⟨g1, g2⟩
        · exact Or.inl ⟨g1, by rw [g2]; rfl⟩
        · exact Or.inr ⟨g1, by rw [g2]; rfl⟩
      · cases e5
  | _ => cases hc
end AIEN
end
section
theorem ai_go_some {G : ai_G} {rec : Nat → List Value → ai_H → Option ai_O} {M : ai_M} {n k : Nat} {L : ai_L} {S : List Value} {h : ai_H} {out : ai_O} (he : ai_go G rec M n k L S h = some out) : ∃ it, (ai_Mc M)[k]? = some it := by
  cases n with
  | zero => cases he
  | succ n =>
    simp only [ai_go] at he
    split at he
    · cases he
    · rename_i a b c d hk
      exact ⟨_, hk⟩
theorem ai_pcs_at {M : ai_M} {k : Nat} {it : ai_I} (h : (ai_Mc M)[k]? = some it) : ai_pcs M k = it.1 := by
  unfold ai_pcs
  rw [h]
section AISO
variable {p : Program} {l : Launch} {e : Env} {R : Room} {s : State} {m : MethodId} {args : Array Value} {below : List Frame} {meth : Method} {c : Code}
variable {y : ai_Y} {sa : Nat → Nat} {D : va_G} {A : Nat → Prop} {ad0 : List Nat} {kc ks d : Nat} {out : ai_O} {TB : List Cond} {P : Nat → Option ai_M} {M : ai_M} {rec : Nat → List Value → ai_H → Option ai_O}
set_option maxHeartbeats 2000000 in
/-- A BODY: what the small machine does in a method the large one does -/
theorem ai_go_ok (hY : ai_okY TB y sa) (hM : ai_okM TB y P M) (hx : p.tables.exec = Jvm.exec) (hb : c.code = ai_Mb M) (hts : ∀ w ∈ TB, w.before args s = true) (hown : s.vm.findClass (ai_Mn M).cls = some m.cls) (hA : ∀ q, s.heap.size ≤ q → A q) (hE : ai_E y sa A s s.heap) (hlocks : meth.locks = false) (hnm : meth.name = (ai_Mn M).name) (hrt : meth.sig.returnType = ai_Mr M)
    (htab : c.exceptionTable.toList.map (fun h => (h.startPc, h.endPc, h.handlerPc, h.catchType)) = ai_Mx M) (hl : l.stackTraces = false) (hRf : d + 7 ≤ R.frames) (hRl : 40 * (d + 1) + 200 ≤ R.locals)
    (hPC : ∀ mi M', P mi = some M' → ai_okC TB M') (hrec : ∀ mi As h out', rec mi As h = some out' → ∃ M', P mi = some M' ∧ ai_Met l TB y sa D d M' As h out') (hrle : ∀ mi As h out', rec mi As h = some out' → ai_le h out'.2) (hc1 : out.2.2.1 ≤ kc + R.cells) (hc2 : out.2.2.2 ≤ ks + R.slots) :
    ∀ (n k : Nat) (L : ai_L) (S : List Value) (h : ai_H), ai_go (ai_yG y) rec M n k L S h = some out → ai_W p l e R s m args below meth c (ai_Zp y sa D ad0 A kc ks out below args s) (ai_yZ y) (ai_yN y) sa D (ai_yl y) A ad0 kc ks (ai_pcs M k) L S h := by
  obtain ⟨m1, m2, m3, m4, m5, m6⟩ := hM
  intro n
  induction n with
  | zero => intro k L S h he; cases he
  | succ n ih =>
    intro k L S h he
    have hle0 := ai_go_le hrle _ _ _ _ _ _ he
    simp only [ai_go] at he
    split at he
    · cases he
    · rename_i pc i len r hk
      have hpc : ai_pcs M k = pc := ai_pcs_at hk
      have hdec := ai_dec_ok m1 hk
      dsimp only at hdec
      have hchk : ai_chk TB y P M (pc, i, len, r) = true := List.all_eq_true.mp m2 _ (List.mem_of_getElem? hk)
      have hnext : ∀ {L' : ai_L} {S' : List Value} {h' : ai_H}, ai_go (ai_yG y) rec M n (k + 1) L' S' h' = some out → ai_pcs M (k + 1) = pc + len := by
        intro L' S' h' h9
        obtain ⟨it, hit⟩ := ai_go_some h9
        rw [ai_pcs_at hit]
        exact ai_row_ok m3 hk hit
      rw [hpc]
      unfold ai_chk at hchk
      dsimp only at hchk
      split at he
      · rename_i h0
        rw [h0] at hchk
        split at he
        · rename_i t L' S' h' heff
          have hlk := ai_chk0_ok hts hE hnm hchk
          have hle := ai_go_le hrle _ _ _ _ _ _ he
          refine ai_eff_ok (G := ai_yG y) hx hb hdec hlk hts hY.2.1 hown hA hY.2.2.1 hY.2.2.2.1 hY.2.2.2.2.1 hE.1 hY.2.2.2.2.2.1 hY.2.2.2.2.2.2.1 heff (Nat.le_trans hle.1 hc1) (Nat.le_trans hle.2 hc2) ?_
          have K := ih _ _ _ _ he
          unfold ai_nx
          by_cases ht : t = 0
          · rw [if_pos ht] at he K ⊢
            rw [← hnext he]
            exact K
          · rw [if_neg ht] at K ⊢
            exact K
        · cases he
      · rename_i h0
        rw [h0] at hchk
        have hchk : (match P (ai_nth r 0).toNat with
          | some M' => ai_chk1 TB y M M' i len r
          | none => false) = true := hchk
        split at he
        · rename_i hcond
          obtain ⟨w1, w2, w3⟩ := hcond
          have hcall : ∀ out', rec (ai_nth r 0).toNat ((S.take (ai_nth r 1).toNat).reverse) h = some out' → ai_le out'.2 out.2 →
              (∀ v, out'.1 = .inl v → ai_W p l e R s m args below meth c (ai_Zp y sa D ad0 A kc ks out below args s) (ai_yZ y) (ai_yN y) sa D (ai_yl y) A ad0 kc ks (pc + 3) L (v.toList ++ S.drop (ai_nth r 1).toNat) out'.2) →
              (∀ E, out'.1 = .inr E → (∃ x, c.exceptionTable.toList = [x] ∧ covers x pc = true ∧ x.catchType ≠ 0 ∧ (Cond.classLink (ai_Mn M).cls x.catchType E).before args s = true ∧ ai_W p l e R s m args below meth c (ai_Zp y sa D ad0 A kc ks out below args s) (ai_yZ y) (ai_yN y) sa D (ai_yl y) A ad0 kc ks x.handlerPc L [.float 0] out'.2) ∨ ((∀ x ∈ c.exceptionTable.toList, covers x pc = false) ∧ out = (.inr E, out'.2))) →
              ai_W p l e R s m args below meth c (ai_Zp y sa D ad0 A kc ks out below args s) (ai_yZ y) (ai_yN y) sa D (ai_yl y) A ad0 kc ks pc L S h := by
            intro out' hr hle' hkr hkt
            obtain ⟨M', hP', hmet⟩ := hrec _ _ _ _ hr
            rw [hP'] at hchk
            have hent := ai_ent_ok (p := p) (l := l) (e := e) (R := R) (below := below) (meth := meth) (D := D) (n := (ai_nth r 1).toNat) hY hx hb hdec hts hown hE (hPC _ _ hP') hchk rfl w2 w3
            have hchk2 := hchk
            unfold ai_chk1 at hchk2
            simp only [Bool.and_eq_true] at hchk2
            have c1 := hchk2.1
            have hlen3 : len = 3 := of_decide_eq_true c1
            subst hlen3
            obtain ⟨k1, k2, k3, -⟩ := hPC _ _ hP'
            exact ai_call_ok (d := d) (own := (ai_Mn M).cls) hb hdec hts hY.1 k1 k2 hown hA hE hlocks (by omega) (by omega) (hrle _ _ _ _ hr) (Nat.le_trans hle'.1 hc1) (Nat.le_trans hle'.2 hc2) hmet w1 hent hkr hkt
          have hlen3 : ∀ {L' : ai_L} {S' : List Value} {h' : ai_H}, ai_go (ai_yG y) rec M n (k + 1) L' S' h' = some out → len = 3 → ai_W p l e R s m args below meth c (ai_Zp y sa D ad0 A kc ks out below args s) (ai_yZ y) (ai_yN y) sa D (ai_yl y) A ad0 kc ks (pc + 3) L' S' h' := by
            intro L' S' h' h9 h8
            have K := ih _ _ _ _ h9
            rw [hnext h9, h8] at K
            exact K
          have hl3 : len = 3 := by
            split at hchk
            · unfold ai_chk1 at hchk
              simp only [Bool.and_eq_true] at hchk
              exact of_decide_eq_true hchk.1
            · cases hchk
          have hhs : ∀ t nm, ai_catch (ai_Mh M) k = some (t, nm) → ∃ x, c.exceptionTable.toList = [x] ∧ covers x pc = true ∧ x.catchType ≠ 0 ∧ (Cond.classLink (ai_Mn M).cls x.catchType nm).before args s = true ∧ x.handlerPc = ai_pcs M t := by
            intro t nm hcat
            unfold ai_chx at m4
            split at m4
            · rw [List.isEmpty_iff.mp m4] at hcat; cases hcat
            · rename_i q hq
              split at m4
              · rename_i z hz
                simp only [Bool.and_eq_true] at m4
                obtain ⟨z1, z2, z3⟩ := m4
                obtain ⟨z1, z4⟩ := of_decide_eq_true z1
                rw [hz] at hcat
                simp only [ai_catch] at hcat
                split at hcat
                · rename_i hcov
                  cases hcat
                  rw [hq] at htab
                  obtain ⟨x, hxl, hxe⟩ := List.map_eq_singleton_iff.mp htab
                  cases hxe
                  have hkl : k < (ai_Mc M).length := (List.getElem?_eq_some_iff.mp hk).1
                  have h3 := List.all_eq_true.mp z3 k (List.mem_range.mpr hkl)
                  rw [hcov, hpc] at h3
                  refine ⟨x, hxl, ?_, z4, hts _ (of_decide_eq_true z2), z1.symm⟩
                  have h3 := (beq_iff_eq.mp h3).symm
                  exact h3
                · cases hcat
              · cases m4
            · cases m4
          have hno : ai_catch (ai_Mh M) k = none → ∀ x ∈ c.exceptionTable.toList, covers x pc = false := by
            intro hcat x hx9
            unfold ai_chx at m4
            split at m4
            · rename_i hq
              rw [hq] at htab
              rw [List.map_eq_nil_iff.mp htab] at hx9
              cases hx9
            · rename_i q hq
              split at m4
              · rename_i z hz
                simp only [Bool.and_eq_true] at m4
                obtain ⟨z1, z2, z3⟩ := m4
                rw [hz] at hcat
                simp only [ai_catch] at hcat
                split at hcat
                · cases hcat
                · rename_i hcov
                  rw [hq] at htab
                  obtain ⟨x', hxl, hxe⟩ := List.map_eq_singleton_iff.mp htab
                  rw [hxl] at hx9
                  cases List.mem_singleton.mp hx9
                  cases hxe
                  have hkl : k < (ai_Mc M).length := (List.getElem?_eq_some_iff.mp hk).1
                  have h3 := List.all_eq_true.mp z3 k (List.mem_range.mpr hkl)
                  rw [hpc, Bool.eq_false_iff.mpr hcov] at h3
                  have h3 := (beq_iff_eq.mp h3).symm
                  exact h3
              · cases m4
            · cases m4
          split at he
          · rename_i v h' hr
            have hle := ai_go_le hrle _ _ _ _ _ _ he
            refine hcall _ hr hle (fun v' hv' => ?_) (fun E hE' => by cases hE')
            cases hv'
            exact hlen3 he hl3
          · rename_i E h' hr
            split at he
            · rename_i t nm hcat
              split at he
              · rename_i hnE
                subst hnE
                have hle := ai_go_le hrle _ _ _ _ _ _ he
                refine hcall _ hr hle (fun v' hv' => by cases hv') (fun E' hE' => ?_)
                cases hE'
                obtain ⟨x, g1, g2, g3, g4, g5⟩ := hhs t _ hcat
                refine Or.inl ⟨x, g1, g2, g3, g4, ?_⟩
                rw [g5]
                exact ih _ _ _ _ he
              · cases he
            · rename_i hcat
              cases he
              refine hcall _ hr (ai_le_refl _) (fun v' hv' => by cases hv') (fun E' hE' => ?_)
              cases hE'
              exact Or.inr ⟨hno hcat, rfl⟩
          · cases he
        · cases he
      · rename_i h0
        rw [h0] at hchk
        split at he
        · rename_i hcond
          cases he
          simp only [Bool.and_eq_true] at hchk
          have hl3 : len = 3 := of_decide_eq_true hchk.1
          have htn : c.exceptionTable.toList = [] := by
            unfold ai_chx at m4
            split at m4
            · rename_i hq
              rw [hq] at htab
              exact List.map_eq_nil_iff.mp htab
            · rename_i q hq
              split at m4
              · rename_i z hz
                rw [hz] at hcond
                cases hcond.1
              · cases m4
            · cases m4
          exact ai_throw_ok (ai_thr_ok hY hx hb hdec hts hown hE hlocks hl htn (by omega) (by omega) hchk.2 hl3) hcond.2 hc1 hc2
        · cases he
      · rename_i h0
        rw [h0] at hchk
        split at he
        · rename_i j S'
          split at he
          · rename_i hwt
            cases i with
            | invokespecial idx =>
              simp only [ai_chk3, Bool.and_eq_true] at hchk
              obtain ⟨c1, c2, c3, c4⟩ := hchk
              have hl3 : len = 3 := of_decide_eq_true c1
              have K := ih _ _ _ _ he
              rw [hnext he, hl3] at K
              subst hl3
              exact ai_objinit_ok hx hb hdec hown (ai_tb_ok hts c2) (ai_tb_ok hts c3) (ai_tb_ok hts c4) (by omega) (by omega) hwt K
            | _ => cases hchk
          · cases he
        · cases he
      · rename_i h0
        rw [h0] at hchk
        split at he
        · rename_i S' h' hcp
          split at he
          · rename_i hwt
            cases i with
            | invokestatic idx =>
              simp only [ai_chk4, Bool.and_eq_true] at hchk
              obtain ⟨c1, c2, c3, c4, c5⟩ := hchk
              have hl3 : len = 3 := of_decide_eq_true c1
              have K := ih _ _ _ _ he
              rw [hnext he, hl3] at K
              subst hl3
              have hnw : nativeFrameWords "java/lang/System" "arraycopy" 5 ≤ 150 := by decide +kernel
              exact ai_copy_ok hx hb hdec hown hE.1 hY.2.2.2.2.1 (ai_tb_ok hts c2) (ai_tb_ok hts c3) (ai_tb_ok hts c4) (ai_tb_ok hts c5) (by omega) (by omega) hcp hwt K
            | _ => cases hchk
          · cases he
        · cases he
      · rename_i h0
        rw [h0] at hchk
        obtain ⟨hi, hl1⟩ := of_decide_eq_true hchk
        subst hi; subst hl1
        split at he
        · split at he
          · rename_i ty hty
            split at he
            · rename_i hn
              cases he
              exact ai_iret_ok hx hb hdec hlocks (hrt.trans hty) hn
            · cases he
          · cases he
        · cases he
      · rename_i h0
        rw [h0] at hchk
        simp only [Bool.and_eq_true] at hchk
        obtain ⟨hi, hl1⟩ := of_decide_eq_true hchk.1
        subst hi; subst hl1
        split at he
        · split at he
          · rename_i hn
            cases he
            have h2 := hchk.2
            unfold ai_isro at h2
            split at h2
            · rename_i nm hty
              exact ai_aret_ok hx hb hdec hlocks (hrt.trans hty) (Or.inl ⟨nm, rfl⟩) hn
            · rename_i nm hty
              exact ai_aret_ok hx hb hdec hlocks (hrt.trans hty) (Or.inr ⟨nm, rfl⟩) hn
            · cases h2
          · cases he
        · cases he
      · rename_i h0
        rw [h0] at hchk
        obtain ⟨hi, hl1, hl2⟩ := of_decide_eq_true hchk
        subst hi; subst hl1
        split at he
        · cases he
          exact ai_vret_ok hx hb hdec hlocks (hrt.trans hl2)
        · cases he
      · cases he
end AISO
end
section
theorem ai_lv_mem : ∀ {vs : List Value} {i k : Nat} {v : Value}, (∀ v ∈ vs, v.category = 1) → vs[k]? = some v → (i + k, v) ∈ lv_args i vs
  | [], i, k, v, _, h => by simp at h
  | w :: vs, i, 0, v, _, h => by
    simp at h; subst h
    simp [lv_args]
  | w :: vs, i, k + 1, v, hc, h => by
    rw [List.getElem?_cons_succ] at h
    have h1 : ¬ w.category = 2 := by rw [hc w List.mem_cons_self]; decide
    have h2 := ai_lv_mem (i := i + 1) (fun z hz => hc z (List.mem_cons_of_mem _ hz)) h
    rw [lv_args, if_neg h1]
    have e1 : i + (k + 1) = i + 1 + k := by omega
    rw [e1]
    exact List.mem_cons_of_mem _ h2
theorem ai_lv_cat : ∀ {vs : List Value} {i : Nat}, (∀ v ∈ vs, v.category = 1) → ∀ q ∈ lv_args i vs, q.2.category = 1
  | [], i, _, q, hq => by cases hq
  | w :: vs, i, hc, q, hq => by
    rw [lv_args] at hq
    rcases List.mem_cons.mp hq with rfl | hq
    · exact hc w List.mem_cons_self
    · exact ai_lv_cat (fun z hz => hc z (List.mem_cons_of_mem _ hz)) q hq
theorem ai_sl_len : ∀ {vs : List Value}, (∀ v ∈ vs, v.category = 1) → (lg_sl vs).length = vs.length
  | [], _ => rfl
  | w :: vs, hc => by
    have h1 : ¬ w.category = 2 := by rw [hc w List.mem_cons_self]; decide
    have h2 := ai_sl_len (vs := vs) (fun z hz => hc z (List.mem_cons_of_mem _ hz))
    unfold lg_sl at h2 ⊢
    rw [List.flatMap_cons, if_neg h1]
    simp [h2]
theorem ai_vs_catall {sa : Nat → Nat} {ad : List Nat} : ∀ {S T : List Value}, ai_vs sa ad S T → (∀ v ∈ S, v.category = 1) → ∀ v ∈ T, v.category = 1
  | [], T, h, _, v, hv => by rw [ai_vs_nil h] at hv; cases hv
  | w :: S, T, h, hc, v, hv => by
    obtain ⟨V, T', rfl, h1, h2⟩ := ai_vs_cons h
    rcases List.mem_cons.mp hv with rfl | hv
    · rw [ai_v_cat h1]; exact hc w List.mem_cons_self
    · exact ai_vs_catall h2 (fun z hz => hc z (List.mem_cons_of_mem _ hz)) v hv
/-- the locals at a method's entry -/
theorem ai_l_entry {sa : Nat → Nat} {ad : List Nat} {As Vs : List Value} {n : Nat} (hvs : ai_vs sa ad As Vs) (hok : ai_argok As n = true) : ai_l sa ad (As.map some ++ List.replicate (n - As.length) none) n ((lg_sl Vs ++ List.replicate (n - (lg_sl Vs).length) Slot.unset).toArray) := by
  unfold ai_argok at hok
  rw [Bool.and_eq_true] at hok
  have h1 : As.length ≤ n := of_decide_eq_true hok.1
  have h2 : ∀ v ∈ As, v.category = 1 := fun v hv => of_decide_eq_true (List.all_eq_true.mp hok.2 v hv)
  have h3 := ai_vs_catall hvs h2
  have h4 := ai_sl_len h3
  have h5 := ai_vs_len hvs
  refine ⟨by simp; omega, lv_args 0 Vs, lv_entry Vs (by omega), ai_lv_cat h3, fun i v hi => ?_⟩
  have hlt : i < As.length := by
    rcases Nat.lt_or_ge i As.length with q | q
    · exact q
    · rw [List.getElem?_append_right (by simpa using q)] at hi
      simp [List.getElem?_replicate] at hi
  rw [List.getElem?_append_left (by simpa using hlt), List.getElem?_map] at hi
  have hA : As[i]? = some As[i] := List.getElem?_eq_getElem hlt
  rw [hA] at hi
  simp at hi
  subst hi
  obtain ⟨V, g1, g2⟩ := ai_vs_get hvs hA
  refine ⟨V, g2, ?_⟩
  have := ai_lv_mem (i := 0) h3 g1
  rw [Nat.zero_add] at this
  exact this
section AIRN
variable {l : Launch} {y : ai_Y} {sa : Nat → Nat} {D : va_G} {TB : List Cond} {P : Nat → Option ai_M} {F : Nat}
set_option maxHeartbeats 1000000 in
/-- EVERY CALL: what the small machine answers is what the large one does -/
theorem ai_run_ok (hl : l.stackTraces = false) (hY : ai_okY TB y sa) (hP : ∀ mi M, P mi = some M → ai_okM TB y P M) (hPC : ∀ mi M, P mi = some M → ai_okC TB M) : ∀ (d mi : Nat) (M : ai_M) (As : List Value) (h : ai_H) (out : ai_O), P mi = some M → ai_run P (ai_yG y) F d mi As h = some out → ai_Met l TB y sa D d M As h out := by
  intro d
  induction d with
  | zero => intro mi M As h out _ he; cases he
  | succ d ih =>
    intro mi M As h out hPm he
    have hle := ai_run_le _ _ _ _ _ he
    simp only [ai_run, hPm] at he
    split at he
    · rename_i hok
      intro ad0 tys0 ws0 Vs sz hw hvs
      have hM := hP mi M hPm
      refine MetFree.of_bodyS (code := ai_Mb M) (maxLocals := ai_Ml M) (ret := ai_Mr M) hM.2.2.2.2.1 ?_ ?_
      · intro args s m hpre hn
        obtain ⟨m9, meth, c, h0, h1, h2, h3, h4, -, h5, h6, -⟩ := ai_cd_of (atoms_spec (ws := ai_ws TB M) hpre _ List.mem_cons_self)
        cases hn.symm.trans h0
        exact ⟨meth, c, h1, h2, h3, h4, h5, h6⟩
      · intro p e s m args below meth c s₁ B hml hPc _
        obtain ⟨rfl, hsz, hPP, hK, hD0, hE⟩ := hPc
        subst hsz
        have hh0 : s₁.heap = s.heap := by rw [B.state]; rfl
        have hall := atoms_spec (ws := ai_ws TB M) B.pre
        have hts : ∀ w ∈ TB, w.before Vs.toArray s = true := fun w hw9 => hall w (List.mem_cons_of_mem _ hw9)
        have hown : s.vm.findClass (ai_Mn M).cls = some m.cls := findClass_of_methodNamed B.named
        have X0 := Stand.of_body B
        obtain ⟨m9, meth9, c9, g0, g1, g2, g3, g4, g5, g6, g7, -⟩ := ai_cd_of (hall _ List.mem_cons_self)
        cases B.named.symm.trans g0
        cases B.method.symm.trans g1
        cases X0.code.symm.trans g2
        have hR1 : out.2.2.1 ≤ h.2.1 + (headSpec (ai_ws TB M) (ai_rm (d + 1) (out.2.2.1 - h.2.1) (out.2.2.2 - h.2.2))).room.cells := by
          show out.2.2.1 ≤ h.2.1 + (out.2.2.1 - h.2.1)
          omega
        have hR2 : out.2.2.2 ≤ h.2.2 + (headSpec (ai_ws TB M) (ai_rm (d + 1) (out.2.2.1 - h.2.1) (out.2.2.2 - h.2.2))).room.slots := by
          show out.2.2.2 ≤ h.2.2 + (out.2.2.2 - h.2.2)
          omega
        have K := ai_go_ok (p := p) (l := l) (e := e) (below := below) (D := D) (A := va_A ws0 s.heap.size) (ad0 := ad0) (kc := h.2.1) (ks := h.2.2) (d := d) (out := out) (rec := ai_run P (ai_yG y) F d) hY hM B.exec B.bytes hts hown (fun q hq => Or.inr hq) hE B.notSynchronized (name_of_methodNamed B.named B.method).1 B.returns g5 hl
          (show d + 7 ≤ d + 1 + 6 by omega) (Nat.le_refl _) hPC
          (fun mi' As' h' out' hr' => by
            have hs : ∃ M', P mi' = some M' := by
              cases d with
              | zero => cases hr'
              | succ d =>
                simp only [ai_run] at hr'
                split at hr'
                · rename_i M' hM'; exact ⟨M', hM'⟩
                · cases hr'
            obtain ⟨M', hM'⟩ := hs
            exact ⟨M', hM', ih mi' M' As' h' out' hM' hr'⟩)
          (fun mi' As' h' out' hr' => ai_run_le _ _ _ _ _ hr') hR1 hR2 F 0 _ _ h he
        have hpc0 : ai_pcs M 0 = 0 := by
          have h6 := hM.2.2.2.2.2
          unfold ai_pcs
          split
          · rename_i it hit
            rw [hit] at h6
            exact Option.some.inj h6
          · rfl
        rw [hpc0] at K
        have hent : ai_l sa ad0 (As.map some ++ List.replicate (ai_Ml M - As.length) none) c.maxLocals ((lg_sl Vs ++ List.replicate (ai_Ml M - (lg_sl Vs).length) Slot.unset).toArray) := by
          rw [hml]
          exact ai_l_entry hvs hok
        obtain ⟨t, a1, o, b1, b2, b3⟩ := K ad0 tys0 ws0 s.heap [] 0 0 _ [] ⟨⟨[], by simp⟩, rfl, rfl, hw, hK, hPP, hD0.self, va_S.rf⟩ hent trivial s₁ hh0 X0
        refine ⟨t, o, ?_, b1, b2, b3⟩
        rw [lg_entry_eq]
        exact a1
    · cases he
end AIRN
end
