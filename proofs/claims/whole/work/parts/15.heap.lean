/-! THE CONSTANT OBJECTS: what is known of the cell at a. zc: the class of a constant object by its number, its fields. -/
def ai_zc (zc : Nat → String × u_T) (sa : Nat → Nat) (x : ai_C) (a : Nat) (A : Nat → Prop) (U : State) (H : Heap) : Prop := match x with
  | .inl (ty, n, f) => va_T ty a n (fun j => .int (f j)) A U H
  | .inr (.inl _) => False
  | .inr (.inr (.inl (C, n, g))) => ∃ f : Nat → Value, va_T (.object C) a n f A U H ∧ ∀ j, j < n → ai_v sa [] (g j) (f j)
  | .inr (.inr (.inr (ci, fs))) => va_O (zc ci).1 a A U H ∧ ∀ (k : Nat) (v : Value), fs[k]? = some v → ∃ V, ai_v sa [] v V ∧ va_OF ((zc ci).2 k).1 ((zc ci).2 k).2.1 ((zc ci).2 k).2.2.1 V a A U H
theorem ai_zc_moved {zc : Nat → String × u_T} {sa : Nat → Nat} {x : ai_C} {a : Nat} {A : Nat → Prop} {u U : State} {H : Heap} (hvm : u.vm.Alike U.vm) (h : ai_zc zc sa x a A u H) : ai_zc zc sa x a A U H := by
  match x, h with
  | .inl (ty, n, f), h => exact va_T.moved hvm h
  | .inr (.inr (.inl (C, n, g))), h =>
    obtain ⟨f, h1, h2⟩ := h
    exact ⟨f, va_T.moved hvm h1, h2⟩
  | .inr (.inr (.inr (ci, fs))), h =>
    refine ⟨va_O.moved hvm h.1, fun k v hk => ?_⟩
    obtain ⟨V, h1, h2⟩ := h.2 k v hk
    exact ⟨V, h1, va_OF.moved hvm h2⟩
theorem ai_zc_kept {zc : Nat → String × u_T} {sa : Nat → Nat} {x : ai_C} {a : Nat} {A : Nat → Prop} {U : State} {H H1 : Heap} (h : ai_zc zc sa x a A U H) (hq : ∀ a : Nat, a < H.size → ¬ A a → H1[a]? = H[a]?) : ai_zc zc sa x a A U H1 := by
  match x, h with
  | .inl (ty, n, f), h => exact va_T.kept h hq
  | .inr (.inr (.inl (C, n, g))), h =>
    obtain ⟨f, h1, h2⟩ := h
    exact ⟨f, va_T.kept h1 hq, h2⟩
  | .inr (.inr (.inr (ci, fs))), h =>
    refine ⟨va_O.kept h.1 hq, fun k v hk => ?_⟩
    obtain ⟨V, h1, h2⟩ := h.2 k v hk
    exact ⟨V, h1, va_OF.kept h2 hq⟩
theorem ai_zc_narrow {zc : Nat → String × u_T} {sa : Nat → Nat} {x : ai_C} {a : Nat} {A B : Nat → Prop} {U : State} {H : Heap} (h : ai_zc zc sa x a A U H) (hAB : ∀ q, B q → A q) : ai_zc zc sa x a B U H := by
  match x, h with
  | .inl (ty, n, f), h => exact va_T.narrow h hAB
  | .inr (.inr (.inl (C, n, g))), h =>
    obtain ⟨f, h1, h2⟩ := h
    exact ⟨f, va_T.narrow h1 hAB, h2⟩
  | .inr (.inr (.inr (ci, fs))), h =>
    refine ⟨va_O.narrow h.1 hAB, fun k v hk => ?_⟩
    obtain ⟨V, h1, h2⟩ := h.2 k v hk
    exact ⟨V, h1, va_OF.narrow h2 hAB⟩
section AIG
variable {p : Program} {l : Launch} {e : Env} {R : Room} {s : State} {m : MethodId} {args : Array Value} {below : List Frame} {meth : Method} {c : Code} {Q : State → Prop}
variable {Z : ai_S} {cn : Nat → String} {sa : Nat → Nat} {D : va_G} {cl : List vw_C} {A : Nat → Prop} {ad0 : List Nat} {kc ks : Nat}
variable {cc : ByteArray} {pc t : Nat} {L L' : ai_L} {S S' : List Value} {h h' : ai_H} {pcs : Nat → Nat} {zc : Nat → String × u_T}
theorem ai_v_nil {ad : List Nat} {v V : Value} (h : ai_v sa [] v V) : ai_v sa ad v V := by
  have := ai_v_more h ad
  simpa using this
/-- a number out of an array -/
theorem ai_ald_ok (hZ : ∀ k x, Z k = some x → ai_zc zc sa x (sa k) A s s.heap) {ty : FieldType}
    (row : ∀ (D : va_G) (cl : List vw_C) (tys : List (ClassId × FieldType)) (ws : va_W) (q0 t0 a : Nat) (cA : ClassId) (n : Nat) (f : Nat → Int32) (i : Int32) (H : Heap) (locs : List Loc) (cells slots : Nat) (ls : Array Slot) (st : List Value), va_K D cl tys s → va_P D cl ws H → ws[q0]? = some (a, .inl (cA, n, .inl f)) → tys[t0]? = some (cA, ty) → vp_in i n → W p l e R s m args below meth c H locs cells slots Q (F0 m (pc + 1) ls (.int (f i.toNatClampNeg) :: st)) → W p l e R s m args below meth c H locs cells slots Q (F0 m pc ls (.int i :: .ref a :: st)))
    (rowT : ∀ (a N : Nat) (f : Nat → Value) (i : Int32) (H : Heap) (locs : List Loc) (cells slots : Nat) (ls : Array Slot) (st : List Value), va_T ty a N f A s s.heap → va_S A s.heap H locs → vp_in i N → W p l e R s m args below meth c H locs cells slots Q (F0 m (pc + 1) ls (f i.toNatClampNeg :: st)) → W p l e R s m args below meth c H locs cells slots Q (F0 m pc ls (.int i :: .ref a :: st)))
    (he : ai_ald Z ty L S h = some (t, L', S', h')) (k : ai_W p l e R s m args below meth c Q Z cn sa D cl A ad0 kc ks (ai_nx pcs pc 1 t) L' S' h') : ai_W p l e R s m args below meth c Q Z cn sa D cl A ad0 kc ks pc L S h := by
  unfold ai_ald at he
  split at he
  · rename_i i v r
    split at he
    · rename_i ty' n f hlook
      split at he
      · rename_i hc
        obtain ⟨rfl, hi0, hin⟩ := hc
        simp only [Option.some.injEq, Prod.mk.injEq] at he
        obtain ⟨rfl, rfl, rfl, rfl⟩ := he
        intro ad tys ws H locs cells slots ls st ha hl hs
        obtain ⟨V, T, rfl, hv, hs⟩ := ai_vs_cons hs
        obtain ⟨V2, T, rfl, hv2, hs⟩ := ai_vs_cons hs
        rw [show V = .int i from hv]
        have K := k ad tys ws H locs cells slots ls (.int (f i.toNatClampNeg) :: T) ha hl ⟨rfl, hs⟩
        obtain ⟨-, -, -, hw, hK, hP, hD, hS⟩ := ha
        have hvp : vp_in i n := fun z => z.elim hi0 (fun z => by omega)
        cases v with
        | ref j =>
          obtain ⟨a, E, rfl, g1, -, -, cA, t0, rfl, g2⟩ := ai_w_at hw hlook hv2
          exact row D cl tys ws j t0 a cA n f i H locs cells slots ls T hK hP g1 g2 hvp K
        | retAddr j =>
          rw [show V2 = .ref (sa j) from hv2]
          exact rowT _ n _ i H locs cells slots ls T (hZ j _ hlook) hS hvp K
        | _ => cases hlook
      · cases he
    · cases he
  · cases he
theorem ai_lald_ok (hx : p.tables.exec = Jvm.exec) (hb : c.code = cc) (hd : decode cc pc = .ok (.laload, 1)) (he : ai_lald L S h = some (t, L', S', h')) (k : ai_W p l e R s m args below meth c Q Z cn sa D cl A ad0 kc ks (ai_nx pcs pc 1 t) L' S' h') : ai_W p l e R s m args below meth c Q Z cn sa D cl A ad0 kc ks pc L S h := by
  unfold ai_lald at he
  split at he
  · rename_i i j r
    split at he
    · rename_i n f hlook
      split at he
      · rename_i hc
        obtain ⟨hi0, hin⟩ := hc
        simp only [Option.some.injEq, Prod.mk.injEq] at he
        obtain ⟨rfl, rfl, rfl, rfl⟩ := he
        intro ad tys ws H locs cells slots ls st ha hl hs
        obtain ⟨V, T, rfl, hv, hs⟩ := ai_vs_cons hs
        obtain ⟨V2, T, rfl, hv2, hs⟩ := ai_vs_cons hs
        rw [show V = .int i from hv]
        have K := k ad tys ws H locs cells slots ls (.long (f i.toNatClampNeg) :: T) ha hl ⟨rfl, hs⟩
        obtain ⟨-, -, -, hw, hK, hP, hD, hS⟩ := ha
        have hvp : vp_in i n := fun z => z.elim hi0 (fun z => by omega)
        obtain ⟨a, E, rfl, g1, cA, t0, rfl, g2⟩ := ai_w_at hw hlook hv2
        exact va_lald hx hb hK hP j t0 g1 g2 hvp hd K
      · cases he
    · cases he
  · cases he
/-- a number into an array -/
theorem ai_ast_ok {ty : FieldType} {nar : Int32 → Int32} (hnar : ∀ x, fits ty (.int (nar x)) = true)
    (row : ∀ (D : va_G) (cl : List vw_C) (tys : List (ClassId × FieldType)) (ws : va_W) (q0 t0 a : Nat) (cA : ClassId) (n : Nat) (f : Nat → Int32) (i x : Int32) (H : Heap) (locs : List Loc) (cells slots : Nat) (ls : Array Slot) (st : List Value), va_K D cl tys s → va_P D cl ws H → va_D A ws → va_S A s.heap H locs → ws[q0]? = some (a, .inl (cA, n, .inl f)) → tys[t0]? = some (cA, ty) → vp_in i n → (∀ (H1 : Heap) (locs1 : List Loc), va_P D cl (ws.set q0 (a, .inl (cA, n, .inl (upd f i.toNatClampNeg (nar x))))) H1 → va_D A (ws.set q0 (a, .inl (cA, n, .inl (upd f i.toNatClampNeg (nar x))))) → va_S A s.heap H1 locs1 → W p l e R s m args below meth c H1 locs1 cells slots Q (F0 m (pc + 1) ls st)) → W p l e R s m args below meth c H locs cells slots Q (F0 m pc ls (.int x :: .int i :: .ref a :: st)))
    (he : ai_ast ty nar L S h = some (t, L', S', h')) (k : ai_W p l e R s m args below meth c Q Z cn sa D cl A ad0 kc ks (ai_nx pcs pc 1 t) L' S' h') : ai_W p l e R s m args below meth c Q Z cn sa D cl A ad0 kc ks pc L S h := by
  unfold ai_ast at he
  split at he
  · rename_i x i j r
    split at he
    · rename_i ty' n f hlook
      split at he
      · rename_i hc
        obtain ⟨rfl, hi0, hin⟩ := hc
        simp only [Option.some.injEq, Prod.mk.injEq] at he
        obtain ⟨rfl, rfl, rfl, rfl⟩ := he
        intro ad tys ws H locs cells slots ls st ha hl hs
        obtain ⟨V, T, rfl, hv, hs⟩ := ai_vs_cons hs
        obtain ⟨V2, T, rfl, hv2, hs⟩ := ai_vs_cons hs
        obtain ⟨V3, T, rfl, hv3, hs9⟩ := ai_vs_cons hs
        rw [show V = .int x from hv, show V2 = .int i from hv2]
        obtain ⟨q1, q2, q3, hw, hK, hP, hD, hS⟩ := ha
        have hvp : vp_in i n := fun z => z.elim hi0 (fun z => by omega)
        obtain ⟨a, E, rfl, g1, g0, gf, cA, t0, rfl, g2⟩ := ai_w_at hw hlook hv3
        refine row D cl tys ws j t0 a cA n f i x H locs cells slots ls T hK hP hD hS g1 g2 hvp (fun H1 locs1 hP1 hD1 hS1 => ?_)
        refine k ad tys _ H1 locs1 cells slots ls T ⟨q1, q2, q3, ai_w_set hw g1 ?_, hK, hP1, hD1, hS1⟩ hl hs9
        refine ⟨g0, fun z => ?_, cA, t0, rfl, g2⟩
        by_cases hz : z = i.toNatClampNeg
        · subst hz; rw [pk_us]; exact hnar x
        · rw [pk_un hz]; exact gf z
      · cases he
    · cases he
  · cases he
theorem ai_last_ok (hx : p.tables.exec = Jvm.exec) (hb : c.code = cc) (hd : decode cc pc = .ok (.lastore, 1)) (he : ai_last L S h = some (t, L', S', h')) (k : ai_W p l e R s m args below meth c Q Z cn sa D cl A ad0 kc ks (ai_nx pcs pc 1 t) L' S' h') : ai_W p l e R s m args below meth c Q Z cn sa D cl A ad0 kc ks pc L S h := by
  unfold ai_last at he
  split at he
  · rename_i x i j r
    split at he
    · rename_i n f hlook
      split at he
      · rename_i hc
        obtain ⟨hi0, hin⟩ := hc
        simp only [Option.some.injEq, Prod.mk.injEq] at he
        obtain ⟨rfl, rfl, rfl, rfl⟩ := he
        intro ad tys ws H locs cells slots ls st ha hl hs
        obtain ⟨V, T, rfl, hv, hs⟩ := ai_vs_cons hs
        obtain ⟨V2, T, rfl, hv2, hs⟩ := ai_vs_cons hs
        obtain ⟨V3, T, rfl, hv3, hs9⟩ := ai_vs_cons hs
        rw [show V = .long x from hv, show V2 = .int i from hv2]
        obtain ⟨q1, q2, q3, hw, hK, hP, hD, hS⟩ := ha
        have hvp : vp_in i n := fun z => z.elim hi0 (fun z => by omega)
        obtain ⟨a, E, rfl, g1, cA, t0, rfl, g2⟩ := ai_w_at hw hlook hv3
        refine va_last hx hb hK hP hD hS j t0 g1 g2 hvp hd (fun H1 locs1 hP1 hD1 hS1 => ?_)
        exact k ad tys _ H1 locs1 cells slots ls T ⟨q1, q2, q3, ai_w_set hw g1 ⟨cA, t0, rfl, g2⟩, hK, hP1, hD1, hS1⟩ hl hs9
      · cases he
    · cases he
  · cases he
end AIG
