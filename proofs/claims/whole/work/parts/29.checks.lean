def ai_ar (x : MethodName) (n : Nat) : Bool := decide ((parseMethodDescriptor x.desc).map (fun d => d.parameters.length) = some n)
theorem ai_ar_ok {x : MethodName} {n : Nat} (h : ai_ar x n = true) : ∀ sig, parseMethodDescriptor x.desc = some sig → n = sig.parameters.length := by
  intro sig hs
  have := of_decide_eq_true h
  rw [hs] at this
  exact (Option.some.inj this).symm
/-- a call of M' -/
def ai_chk1 (TB : List Cond) (y : ai_Y) (M M' : ai_M) (i : Instr) (len : Nat) (r : ai_R) : Bool :=
  decide (len = 3) && (match i with
  | .invokevirtual idx => decide (ai_nth r 2 = 1 ∧ 1 ≤ (ai_nth r 1).toNat) && (ai_tb TB (ai_nth r 6) (.instanceMethod (ai_Mn M')) && (match TB[(ai_nth r 4).toNat]? with
    | some (.methodLink o ix x) => decide (o = (ai_Mn M).cls ∧ ix = idx) && (ai_tb TB (ai_nth r 5) (.selects (ai_yc y (ai_nth r 3).toNat).1 x (ai_Mn M')) && (ai_ar x ((ai_nth r 1).toNat - 1) && (decide (x = ai_Mn M') || (ai_tb TB (ai_nth r 7) (.sameMethod x.cls (ai_Mn M').cls x.name x.desc) && ai_tb TB (ai_nth r 8) (.declares ⟨(ai_Mn M').cls, x.name, x.desc⟩)))))
    | _ => false))
  | .invokestatic idx => decide (ai_nth r 2 = 0) && (ai_tb TB (ai_nth r 4) (.methodLink (ai_Mn M).cls idx (ai_Mn M')) && (ai_tb TB (ai_nth r 5) (.static (ai_Mn M')) && ai_ar (ai_Mn M') (ai_nth r 1).toNat))
  | .invokespecial idx => decide (ai_nth r 2 = 2 ∧ 1 ≤ (ai_nth r 1).toNat ∧ (ai_Mn M').name = "<init>" ∧ ai_Mx M' = [] ∧ ai_Mr M' = none) && (ai_tb TB (ai_nth r 5) (.instanceMethod (ai_Mn M')) && (ai_ar (ai_Mn M') ((ai_nth r 1).toNat - 1) && (match TB[(ai_nth r 4).toNat]? with
    | some (.methodLink o ix x) => decide (o = (ai_Mn M).cls ∧ ix = idx ∧ x = ai_Mn M')
    | some (.methodLinkNest o ix x _) => decide (o = (ai_Mn M).cls ∧ ix = idx ∧ x = ai_Mn M')
    | _ => false)))
  | _ => false)
/-- a method that may be called: its code stands in the tables -/
def ai_okC (TB : List Cond) (M : ai_M) : Prop := ai_cw (ai_Mn M) (ai_Mb M) (ai_Ml M) (ai_Mr M) (ai_Mx M) ∈ TB ∧ Cond.initialized (ai_Mn M).cls ∈ TB ∧ ai_Ml M ≤ 20 ∧ (ai_Mn M).cls ≠ "java/lang/invoke/MethodHandle" ∧ (ai_Mn M).cls ≠ "java/lang/invoke/VarHandle"
/-- the exceptions' classes above those that are thrown -/
def ai_up : List String := ["java/lang/RuntimeException", "java/lang/Exception"]
def ai_xw (TB : List Cond) (y : ai_Y) (ws : List Cond) : Bool := ws.all (fun w => decide (w ∈ TB) || decide (w ∈ ai_yw y))
/-- a throw: numbers: entry of the constructor, entry of the text and its length (0: no text), where the text stands, places of two words -/
def ai_chk2 (TB : List Cond) (y : ai_Y) (M : ai_M) (pc : Nat) (i : Instr) (r : ai_R) : Bool := match i with
  | .new ik => ai_tb TB (ai_nth r 4) (.classLink (ai_Mn M).cls ik r.2.2) && (ai_tb TB (ai_nth r 5) (.initialized r.2.2) && (Bundle.fit r.2.2 && (decide (decode (ai_Mb M) (pc + 3) = .ok (.dup, 1)) &&
    (if ai_nth r 2 = 0 then
      decide (decode (ai_Mb M) (pc + 4) = .ok (.invokespecial (ai_nth r 0).toNat, 3)) && (decide (decode (ai_Mb M) (pc + 7) = .ok (.athrow, 1)) && ai_xw TB y (Bundle.ownAtoms0 (ai_Mn M).cls (ai_nth r 0).toNat r.2.2 ai_up))
    else
      decide ((decode (ai_Mb M) (pc + 4) = .ok (.ldc (ai_nth r 1).toNat, 2) ∧ ai_nth r 2 = 2) ∨ (decode (ai_Mb M) (pc + 4) = .ok (.ldc_w (ai_nth r 1).toNat, 3) ∧ ai_nth r 2 = 3)) && (decide (decode (ai_Mb M) (pc + 4 + (ai_nth r 2).toNat) = .ok (.invokespecial (ai_nth r 0).toNat, 3)) && (decide (decode (ai_Mb M) (pc + 4 + (ai_nth r 2).toNat + 3) = .ok (.athrow, 1)) && (ai_xw TB y (Bundle.ownAtoms (ai_Mn M).cls (ai_nth r 0).toNat r.2.2 ai_up) &&
        (match (ai_ys y)[(ai_nth r 3).toNat]? with
        | some q => decide (q.1 = (ai_Mn M).cls ∧ q.2.1 = (ai_nth r 1).toNat)
        | none => false))))))))
  | _ => false
def ai_chk3 (TB : List Cond) (M : ai_M) (i : Instr) (len : Nat) (r : ai_R) : Bool := match i with
  | .invokespecial idx => decide (len = 3) && (ai_tb TB (ai_nth r 0) (.methodLink (ai_Mn M).cls idx Lib.objectInit) && (ai_tb TB (ai_nth r 1) (.instanceMethod Lib.objectInit) && ai_tb TB (ai_nth r 2) (.code Lib.objectInit ⟨#[0xb1]⟩ 1 none)))
  | _ => false
def ai_chk4 (TB : List Cond) (M : ai_M) (i : Instr) (len : Nat) (r : ai_R) : Bool := match i with
  | .invokestatic idx => decide (len = 3) && (ai_tb TB (ai_nth r 0) (.methodLink (ai_Mn M).cls idx arraycopyName) && (ai_tb TB (ai_nth r 1) (.native arraycopyName) && (ai_tb TB (ai_nth r 2) (.static arraycopyName) && ai_tb TB (ai_nth r 3) (.initialized "java/lang/System"))))
  | _ => false
def ai_isro (t : Option FieldType) : Bool := match t with
  | some (.object _) => true
  | some (.array _) => true
  | _ => false
/-- the k-th instruction -/
def ai_chk (TB : List Cond) (y : ai_Y) (P : Nat → Option ai_M) (M : ai_M) (it : ai_I) : Bool := match it.2.2.2.1 with
  | 0 => ai_chk0 TB y M it.1 it.2.1 it.2.2.1 it.2.2.2
  | 1 => (match P (ai_nth it.2.2.2 0).toNat with
    | some M' => ai_chk1 TB y M M' it.2.1 it.2.2.1 it.2.2.2
    | none => false)
  | 2 => decide (it.2.2.1 = 3) && ai_chk2 TB y M it.1 it.2.1 it.2.2.2
  | 3 => ai_chk3 TB M it.2.1 it.2.2.1 it.2.2.2
  | 4 => ai_chk4 TB M it.2.1 it.2.2.1 it.2.2.2
  | 5 => decide (it.2.1 = .ireturn ∧ it.2.2.1 = 1)
  | 6 => decide (it.2.1 = .areturn ∧ it.2.2.1 = 1) && ai_isro (ai_Mr M)
  | 7 => decide (it.2.1 = .return_ ∧ it.2.2.1 = 1 ∧ ai_Mr M = none)
  | _ => true
/-- each instruction stands behind the one before -/
def ai_row : List ai_I → Bool
  | a :: b :: t => decide (b.1 = a.1 + a.2.2.1) && ai_row (b :: t)
  | _ => true
theorem ai_row_ok : ∀ {l : List ai_I} {k : Nat} {a b : ai_I}, ai_row l = true → l[k]? = some a → l[k + 1]? = some b → b.1 = a.1 + a.2.2.1
  | [], k, a, b, _, h, _ => by simp at h
  | [x], k, a, b, _, _, h => by simp at h
  | x :: z :: t, 0, a, b, hr, h1, h2 => by
    simp at h1 h2
    subst h1; subst h2
    rw [ai_row, Bool.and_eq_true] at hr
    exact of_decide_eq_true hr.1
  | x :: z :: t, k + 1, a, b, hr, h1, h2 => by
    rw [ai_row, Bool.and_eq_true] at hr
    rw [List.getElem?_cons_succ] at h1 h2
    exact ai_row_ok (l := z :: t) hr.2 h1 h2
/-- what a method catches: at most one row -/
def ai_chx (TB : List Cond) (M : ai_M) : Bool := match ai_Mx M with
  | [] => (ai_Mh M).isEmpty
  | [q] => (match ai_Mh M with
    | [z] => decide (ai_pcs M z.2.2.1 = q.2.2.1 ∧ q.2.2.2 ≠ 0) && (decide (Cond.classLink (ai_Mn M).cls q.2.2.2 z.2.2.2 ∈ TB) && (List.range (ai_Mc M).length).all (fun k => ai_cov k z == (decide (q.1 ≤ ai_pcs M k) && decide (ai_pcs M k < q.2.1))))
    | _ => false)
  | _ => false
def ai_dec (M : ai_M) : Bool := (ai_Mc M).all (fun it => decide (decode (ai_Mb M) it.1 = .ok (it.2.1, it.2.2.1)))
theorem ai_dec_ok {M : ai_M} {k : Nat} {it : ai_I} (h : ai_dec M = true) (hk : (ai_Mc M)[k]? = some it) : decode (ai_Mb M) it.1 = .ok (it.2.1, it.2.2.1) := by
  have h1 := List.all_eq_true.mp h it (List.mem_of_getElem? hk)
  exact of_decide_eq_true h1
/-- all of a method -/
def ai_okM (TB : List Cond) (y : ai_Y) (P : Nat → Option ai_M) (M : ai_M) : Prop := ai_dec M = true ∧ (ai_Mc M).all (ai_chk TB y P M) = true ∧ ai_row (ai_Mc M) = true ∧ ai_chx TB M = true ∧ plainFor (ai_Mn M) = true ∧ (ai_Mc M)[0]?.map (fun it => it.1) = some 0
/-- all of the program's tables -/
def ai_okY (TB : List Cond) (y : ai_Y) (sa : Nat → Nat) : Prop := (∀ w ∈ TB, ai_st w = true) ∧ ai_clok TB (ai_yl y) (ai_yt y) ∧ ai_dok (ai_yl y) (ai_yt y) (ai_yG y).2.2.1 ∧ ((ai_yG y).2.2.2 = fun ci k v => ai_fit (ai_yt y ci k) v) ∧ (∀ ci, ai_yN y ci = (ai_yc y ci).1) ∧ (∀ j ci fs, ai_yZ y j = some (ai_obj ci fs) → (ai_yl y)[ci]? = none) ∧ (∀ i j ci fs fs', ai_yZ y i = some (ai_obj ci fs) → ai_yZ y j = some (ai_obj ci fs') → sa i = sa j → i = j) ∧ (∀ ci q, (ai_yl y)[ci]? = some q → q.1 = (ai_yc y ci).1)
