section AIR
variable {p : Program} {l : Launch} {e : Env} {R : Room} {s : State} {m : MethodId} {args : Array Value} {below : List Frame} {meth : Method} {c : Code} {Q : State → Prop}
variable {Z : ai_S} {cn : Nat → String} {sa : Nat → Nat} {D : va_G} {cl : List vw_C} {A : Nat → Prop} {ad0 : List Nat} {kc ks : Nat}
/-- the cells h stand in the heap H -/
def ai_At (s : State) (Z : ai_S) (cn : Nat → String) (sa : Nat → Nat) (D : va_G) (cl : List vw_C) (A : Nat → Prop) (ad0 : List Nat) (kc ks : Nat) (h : ai_H) (ad : List Nat) (tys : List (ClassId × FieldType)) (ws : va_W) (H : Heap) (locs : List Loc) (cells slots : Nat) : Prop :=
  (∃ q, ad = ad0 ++ q) ∧ h.2.1 = kc + cells ∧ h.2.2 = ks + slots ∧ ai_w Z cn sa ad tys h.1 ws ∧ va_K D cl tys s ∧ va_P D cl ws H ∧ va_D A ws ∧ va_S A s.heap H locs
/-- from the place pc with these locals, words and cells the large machine comes to Q -/
def ai_W (p : Program) (l : Launch) (e : Env) (R : Room) (s : State) (m : MethodId) (args : Array Value) (below : List Frame) (meth : Method) (c : Code) (Q : State → Prop) (Z : ai_S) (cn : Nat → String) (sa : Nat → Nat) (D : va_G) (cl : List vw_C) (A : Nat → Prop) (ad0 : List Nat) (kc ks : Nat) (pc : Nat) (L : ai_L) (S : List Value) (h : ai_H) : Prop :=
  ∀ (ad : List Nat) (tys : List (ClassId × FieldType)) (ws : va_W) (H : Heap) (locs : List Loc) (cells slots : Nat) (ls : Array Slot) (st : List Value), ai_At s Z cn sa D cl A ad0 kc ks h ad tys ws H locs cells slots → ai_l sa ad L c.maxLocals ls → ai_vs sa ad S st → W p l e R s m args below meth c H locs cells slots Q (F0 m pc ls st)
/-- where the machine goes on -/
def ai_nx (pcs : Nat → Nat) (pc len t : Nat) : Nat := if t = 0 then pc + len else pcs (t - 1)
variable {cc : ByteArray} {pc t : Nat} {L L' : ai_L} {S S' : List Value} {h h' : ai_H} {pcs : Nat → Nat}
theorem ai_push {v V : Value} {n : Nat} (hV : ∀ ad, ai_v sa ad v V)
    (row : ∀ (H : Heap) (locs : List Loc) (cells slots : Nat) (ls : Array Slot) (st : List Value), va_S A s.heap H locs → W p l e R s m args below meth c H locs cells slots Q (F0 m (pc + n) ls (V :: st)) → W p l e R s m args below meth c H locs cells slots Q (F0 m pc ls st))
    (k : ai_W p l e R s m args below meth c Q Z cn sa D cl A ad0 kc ks (pc + n) L (v :: S) h) : ai_W p l e R s m args below meth c Q Z cn sa D cl A ad0 kc ks pc L S h := by
  intro ad tys ws H locs cells slots ls st ha hl hs
  exact row _ _ _ _ _ _ ha.2.2.2.2.2.2.2 (k ad tys ws H locs cells slots ls (V :: st) ha hl ⟨hV ad, hs⟩)
theorem ai_bin_ok {f : Int32 → Int32 → Int32} (row : ∀ (x y : Int32) (H : Heap) (locs : List Loc) (cells slots : Nat) (ls : Array Slot) (st : List Value), W p l e R s m args below meth c H locs cells slots Q (F0 m (pc + 1) ls (.int (f x y) :: st)) → W p l e R s m args below meth c H locs cells slots Q (F0 m pc ls (.int y :: .int x :: st)))
    (he : ai_bin f L S h = some (t, L', S', h')) (k : ai_W p l e R s m args below meth c Q Z cn sa D cl A ad0 kc ks (ai_nx pcs pc 1 t) L' S' h') : ai_W p l e R s m args below meth c Q Z cn sa D cl A ad0 kc ks pc L S h := by
  unfold ai_bin at he
  split at he
  · rename_i y x r
    simp only [Option.some.injEq, Prod.mk.injEq] at he
    obtain ⟨rfl, rfl, rfl, rfl⟩ := he
    intro ad tys ws H locs cells slots ls st ha hl hs
    obtain ⟨V, T, rfl, hv, hs⟩ := ai_vs_cons hs
    obtain ⟨V2, T, rfl, hv2, hs⟩ := ai_vs_cons hs
    rw [show V = .int y from hv, show V2 = .int x from hv2]
    exact row _ _ _ _ _ _ _ _ (k ad tys ws H locs cells slots ls (.int (f x y) :: T) ha hl ⟨rfl, hs⟩)
  · cases he
theorem ai_divs_ok {f : Int32 → Int32 → Int32} (row : ∀ (x y : Int32) (H : Heap) (locs : List Loc) (cells slots : Nat) (ls : Array Slot) (st : List Value), ¬ y = 0 → W p l e R s m args below meth c H locs cells slots Q (F0 m (pc + 1) ls (.int (f x y) :: st)) → W p l e R s m args below meth c H locs cells slots Q (F0 m pc ls (.int y :: .int x :: st)))
    (he : ai_divs f L S h = some (t, L', S', h')) (k : ai_W p l e R s m args below meth c Q Z cn sa D cl A ad0 kc ks (ai_nx pcs pc 1 t) L' S' h') : ai_W p l e R s m args below meth c Q Z cn sa D cl A ad0 kc ks pc L S h := by
  unfold ai_divs at he
  split at he
  · rename_i y x r
    split at he
    · cases he
    · rename_i hy
      simp only [Option.some.injEq, Prod.mk.injEq] at he
      obtain ⟨rfl, rfl, rfl, rfl⟩ := he
      intro ad tys ws H locs cells slots ls st ha hl hs
      obtain ⟨V, T, rfl, hv, hs⟩ := ai_vs_cons hs
      obtain ⟨V2, T, rfl, hv2, hs⟩ := ai_vs_cons hs
      rw [show V = .int y from hv, show V2 = .int x from hv2]
      exact row _ _ _ _ _ _ _ _ hy (k ad tys ws H locs cells slots ls (.int (f x y) :: T) ha hl ⟨rfl, hs⟩)
  · cases he
theorem ai_un_ok {f : Int32 → Value} (hf : ∀ ad x, ai_v sa ad (f x) (f x)) (row : ∀ (x : Int32) (H : Heap) (locs : List Loc) (cells slots : Nat) (ls : Array Slot) (st : List Value), W p l e R s m args below meth c H locs cells slots Q (F0 m (pc + 1) ls (f x :: st)) → W p l e R s m args below meth c H locs cells slots Q (F0 m pc ls (.int x :: st)))
    (he : ai_un f L S h = some (t, L', S', h')) (k : ai_W p l e R s m args below meth c Q Z cn sa D cl A ad0 kc ks (ai_nx pcs pc 1 t) L' S' h') : ai_W p l e R s m args below meth c Q Z cn sa D cl A ad0 kc ks pc L S h := by
  unfold ai_un at he
  split at he
  · rename_i x r
    simp only [Option.some.injEq, Prod.mk.injEq] at he
    obtain ⟨rfl, rfl, rfl, rfl⟩ := he
    intro ad tys ws H locs cells slots ls st ha hl hs
    obtain ⟨V, T, rfl, hv, hs⟩ := ai_vs_cons hs
    rw [show V = .int x from hv]
    exact row _ _ _ _ _ _ _ (k ad tys ws H locs cells slots ls (f x :: T) ha hl ⟨hf ad x, hs⟩)
  · cases he
theorem ai_iload_ok {i n : Nat} (row : ∀ (x : Int32) (H : Heap) (locs : List Loc) (cells slots : Nat) (ls : Array Slot) (st : List Value), ls[i]? = some (.val (.int x)) → W p l e R s m args below meth c H locs cells slots Q (F0 m (pc + n) ls (.int x :: st)) → W p l e R s m args below meth c H locs cells slots Q (F0 m pc ls st))
    (he : ai_iload i L S h = some (t, L', S', h')) (k : ai_W p l e R s m args below meth c Q Z cn sa D cl A ad0 kc ks (ai_nx pcs pc n t) L' S' h') : ai_W p l e R s m args below meth c Q Z cn sa D cl A ad0 kc ks pc L S h := by
  unfold ai_iload at he
  split at he
  · rename_i x hx0
    simp only [Option.some.injEq, Prod.mk.injEq] at he
    obtain ⟨rfl, rfl, rfl, rfl⟩ := he
    intro ad tys ws H locs cells slots ls st ha hl hs
    obtain ⟨V, hv, hV⟩ := ai_l_at hl hx0
    rw [show V = .int x from hv] at hV
    exact row _ _ _ _ _ _ _ hV (k ad tys ws H locs cells slots ls (.int x :: st) ha hl ⟨rfl, hs⟩)
  · cases he
theorem ai_isr_v {sa : Nat → Nat} {ad : List Nat} {v V : Value} (hr : ai_isr v = true) (hv : ai_v sa ad v V) : V = .null ∨ ∃ a, V = .ref a := by
  cases v with
  | ref i => obtain ⟨a, -, rfl⟩ := hv; exact Or.inr ⟨a, rfl⟩
  | null => exact Or.inl hv
  | retAddr k => exact Or.inr ⟨_, hv⟩
  | float b => exact hv
  | int x => cases hr
  | long x => cases hr
  | double x => cases hr
theorem ai_isr_cat {v : Value} (hr : ai_isr v = true) : v.category = 1 := by
  cases v <;> first | rfl | cases hr
theorem ai_aload_ok {i n : Nat} (row : ∀ (a : Nat) (H : Heap) (locs : List Loc) (cells slots : Nat) (ls : Array Slot) (st : List Value), ls[i]? = some (.val (.ref a)) → W p l e R s m args below meth c H locs cells slots Q (F0 m (pc + n) ls (.ref a :: st)) → W p l e R s m args below meth c H locs cells slots Q (F0 m pc ls st))
    (rowN : ∀ (H : Heap) (locs : List Loc) (cells slots : Nat) (ls : Array Slot) (st : List Value), ls[i]? = some (.val .null) → W p l e R s m args below meth c H locs cells slots Q (F0 m (pc + n) ls (.null :: st)) → W p l e R s m args below meth c H locs cells slots Q (F0 m pc ls st))
    (he : ai_aload i L S h = some (t, L', S', h')) (k : ai_W p l e R s m args below meth c Q Z cn sa D cl A ad0 kc ks (ai_nx pcs pc n t) L' S' h') : ai_W p l e R s m args below meth c Q Z cn sa D cl A ad0 kc ks pc L S h := by
  unfold ai_aload at he
  split at he
  · rename_i v hx0
    split at he
    · rename_i hr
      simp only [Option.some.injEq, Prod.mk.injEq] at he
      obtain ⟨rfl, rfl, rfl, rfl⟩ := he
      intro ad tys ws H locs cells slots ls st ha hl hs
      obtain ⟨V, hv, hV⟩ := ai_l_at hl hx0
      have K := k ad tys ws H locs cells slots ls (V :: st) ha hl ⟨hv, hs⟩
      rcases ai_isr_v hr hv with rfl | ⟨a, rfl⟩
      · exact rowN _ _ _ _ _ _ hV K
      · exact row _ _ _ _ _ _ _ hV K
    · cases he
  · cases he
theorem ai_istore_ok {i n : Nat} (row : ∀ (x : Int32) (H : Heap) (locs : List Loc) (cells slots : Nat) (ls : Array Slot) (lv : List (Nat × Value)) (st : List Value), lv_has ls c.maxLocals lv → i < c.maxLocals → (∀ ls' : Array Slot, lv_has ls' c.maxLocals ((i, Value.int x) :: lv.filter (fun q => !(q.1 == i) && !(q.1 + 1 == i && q.2.category == 2))) → W p l e R s m args below meth c H locs cells slots Q (F0 m (pc + n) ls' st)) → W p l e R s m args below meth c H locs cells slots Q (F0 m pc ls (.int x :: st)))
    (he : ai_istore i L S h = some (t, L', S', h')) (k : ai_W p l e R s m args below meth c Q Z cn sa D cl A ad0 kc ks (ai_nx pcs pc n t) L' S' h') : ai_W p l e R s m args below meth c Q Z cn sa D cl A ad0 kc ks pc L S h := by
  unfold ai_istore at he
  split at he
  · rename_i x r
    split at he
    · rename_i hi
      simp only [Option.some.injEq, Prod.mk.injEq] at he
      obtain ⟨rfl, rfl, rfl, rfl⟩ := he
      intro ad tys ws H locs cells slots ls st ha hl hs
      obtain ⟨V, T, rfl, hv, hs⟩ := ai_vs_cons hs
      rw [show V = .int x from hv]
      obtain ⟨h0, lv, h1, h2, h3⟩ := hl
      refine row _ _ _ _ _ _ lv _ h1 (by omega) (fun ls' hl' => ?_)
      exact k ad tys ws H locs cells slots ls' T ha (ai_l_set h0 h2 h3 (by omega) rfl rfl hl') hs
    · cases he
  · cases he
theorem ai_astore_ok {i n : Nat} (row : ∀ (a : Nat) (H : Heap) (locs : List Loc) (cells slots : Nat) (ls : Array Slot) (lv : List (Nat × Value)) (st : List Value), lv_has ls c.maxLocals lv → i < c.maxLocals → (∀ ls' : Array Slot, lv_has ls' c.maxLocals ((i, Value.ref a) :: lv.filter (fun q => !(q.1 == i) && !(q.1 + 1 == i && q.2.category == 2))) → W p l e R s m args below meth c H locs cells slots Q (F0 m (pc + n) ls' st)) → W p l e R s m args below meth c H locs cells slots Q (F0 m pc ls (.ref a :: st)))
    (rowN : ∀ (H : Heap) (locs : List Loc) (cells slots : Nat) (ls : Array Slot) (lv : List (Nat × Value)) (st : List Value), lv_has ls c.maxLocals lv → i < c.maxLocals → (∀ ls' : Array Slot, lv_has ls' c.maxLocals ((i, Value.null) :: lv.filter (fun q => !(q.1 == i) && !(q.1 + 1 == i && q.2.category == 2))) → W p l e R s m args below meth c H locs cells slots Q (F0 m (pc + n) ls' st)) → W p l e R s m args below meth c H locs cells slots Q (F0 m pc ls (.null :: st)))
    (he : ai_astore i L S h = some (t, L', S', h')) (k : ai_W p l e R s m args below meth c Q Z cn sa D cl A ad0 kc ks (ai_nx pcs pc n t) L' S' h') : ai_W p l e R s m args below meth c Q Z cn sa D cl A ad0 kc ks pc L S h := by
  unfold ai_astore at he
  split at he
  · rename_i v r
    split at he
    · rename_i hi
      simp only [Option.some.injEq, Prod.mk.injEq] at he
      obtain ⟨rfl, rfl, rfl, rfl⟩ := he
      intro ad tys ws H locs cells slots ls st ha hl hs
      obtain ⟨V, T, rfl, hv, hs2⟩ := ai_vs_cons hs
      obtain ⟨h0, lv, h1, h2, h3⟩ := hl
      have hc := ai_isr_cat hi.1
      rcases ai_isr_v hi.1 hv with rfl | ⟨a, rfl⟩
      · refine rowN _ _ _ _ _ lv _ h1 (by omega) (fun ls' hl' => ?_)
        exact k ad tys ws H locs cells slots ls' T ha (ai_l_set h0 h2 h3 (by omega) hv hc hl') hs2
      · refine row _ _ _ _ _ _ lv _ h1 (by omega) (fun ls' hl' => ?_)
        exact k ad tys ws H locs cells slots ls' T ha (ai_l_set h0 h2 h3 (by omega) hv hc hl') hs2
    · cases he
  · cases he
theorem ai_inc_ok {i : Nat} {z : Int} (hx : p.tables.exec = Jvm.exec) (hb : c.code = cc) (hd : decode cc pc = .ok (.iinc i z, 3))
    (he : ai_inc i z L S h = some (t, L', S', h')) (k : ai_W p l e R s m args below meth c Q Z cn sa D cl A ad0 kc ks (ai_nx pcs pc 3 t) L' S' h') : ai_W p l e R s m args below meth c Q Z cn sa D cl A ad0 kc ks pc L S h := by
  unfold ai_inc at he
  split at he
  · rename_i x hx0
    simp only [Option.some.injEq, Prod.mk.injEq] at he
    obtain ⟨rfl, rfl, rfl, rfl⟩ := he
    intro ad tys ws H locs cells slots ls st ha hl hs
    obtain ⟨h0, lv, h1, h2, h3⟩ := hl
    obtain ⟨V, hv, hV⟩ := h3 i _ hx0
    rw [show V = .int x from hv] at hV
    obtain ⟨j, hj⟩ := List.getElem?_of_mem hV
    have hi : i < c.maxLocals := by
      have := (List.getElem?_eq_some_iff.mp hx0).1
      omega
    refine lv_iinc hx hb hd h1 hj rfl hi rfl (fun ls' hl' => ?_)
    exact k ad tys ws H locs cells slots ls' st ha (ai_l_set h0 h2 h3 hi rfl rfl hl') hs
  · cases he
theorem ai_dup_ok {f : Value → List Value → Option (List Value)} (row : ∀ (v : Value) (r r' : List Value) (V : Value) (T : List Value) (ad : List Nat) (H : Heap) (locs : List Loc) (cells slots : Nat) (ls : Array Slot), v.category = 1 → f v r = some r' → ai_v sa ad v V → ai_vs sa ad r T → ∃ T', ai_vs sa ad r' T' ∧ (W p l e R s m args below meth c H locs cells slots Q (F0 m (pc + 1) ls T') → W p l e R s m args below meth c H locs cells slots Q (F0 m pc ls (V :: T))))
    (he : ai_dup f L S h = some (t, L', S', h')) (k : ai_W p l e R s m args below meth c Q Z cn sa D cl A ad0 kc ks (ai_nx pcs pc 1 t) L' S' h') : ai_W p l e R s m args below meth c Q Z cn sa D cl A ad0 kc ks pc L S h := by
  unfold ai_dup at he
  split at he
  · rename_i v r
    split at he
    · rename_i hc
      split at he
      · rename_i r' hf
        simp only [Option.some.injEq, Prod.mk.injEq] at he
        obtain ⟨rfl, rfl, rfl, rfl⟩ := he
        intro ad tys ws H locs cells slots ls st ha hl hs
        obtain ⟨V, T, rfl, hv, hs⟩ := ai_vs_cons hs
        obtain ⟨T', h1, h2⟩ := row v r r' V T ad H locs cells slots ls hc hf hv hs
        exact h2 (k ad tys ws H locs cells slots ls T' ha hl h1)
      · cases he
    · cases he
  · cases he
end AIR
