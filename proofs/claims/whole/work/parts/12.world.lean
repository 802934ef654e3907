/-- the types of the number arrays of the small machine -/
def ai_ty (ty : FieldType) : Prop := ty = .int ∨ ty = .byte ∨ ty = .short ∨ ty = .char
/-- a made cell -/
def ai_c (Z : ai_S) (cn : Nat → String) (sa : Nat → Nat) (ad : List Nat) (tys : List (ClassId × FieldType)) (x : ai_C) (E : va_E) : Prop := match x with
  | .inl (ty, n, f) => ai_ty ty ∧ (∀ j, fits ty (.int (f j)) = true) ∧ ∃ (cA : ClassId) (t0 : Nat), E = .inl (cA, n, .inl f) ∧ tys[t0]? = some (cA, ty)
  | .inr (.inl (n, f)) => ∃ (cA : ClassId) (t0 : Nat), E = .inl (cA, n, .inr (.inl f)) ∧ tys[t0]? = some (cA, .long)
  | .inr (.inr (.inl (C, n, g))) => ∃ (cA : ClassId) (t0 : Nat) (f : Nat → Option Nat), E = .inl (cA, n, .inr (.inr (.inr (.inr f)))) ∧ tys[t0]? = some (cA, .object C) ∧ ∀ j, (g j = .null ∧ f j = none) ∨ ∃ k ci fs, g j = .retAddr k ∧ f j = some (sa k) ∧ Z k = some (ai_obj ci fs) ∧ cn ci = C
  | .inr (.inr (.inr (ci, fs))) => ∃ vs, E = .inr (ci, vs) ∧ ai_vs sa ad fs vs
theorem ai_c_more {Z : ai_S} {cn : Nat → String} {sa : Nat → Nat} {ad : List Nat} {tys : List (ClassId × FieldType)} {x : ai_C} {E : va_E} (h : ai_c Z cn sa ad tys x E) (q : List Nat) (t : List (ClassId × FieldType)) : ai_c Z cn sa (ad ++ q) (tys ++ t) x E := by
  have up : ∀ {t0 : Nat} {y : ClassId × FieldType}, tys[t0]? = some y → (tys ++ t)[t0]? = some y := fun hy => by
    rw [List.getElem?_append_left (List.getElem?_eq_some_iff.mp hy).1]; exact hy
  match x, h with
  | .inl (ty, n, f), h =>
    obtain ⟨h1, h2, cA, t0, h3, h4⟩ := h
    exact ⟨h1, h2, cA, t0, h3, up h4⟩
  | .inr (.inl (n, f)), h =>
    obtain ⟨cA, t0, h3, h4⟩ := h
    exact ⟨cA, t0, h3, up h4⟩
  | .inr (.inr (.inl (C, n, g))), h =>
    obtain ⟨cA, t0, f, h3, h4, h5⟩ := h
    exact ⟨cA, t0, f, h3, up h4, h5⟩
  | .inr (.inr (.inr (ci, fs))), h =>
    obtain ⟨vs, h3, h4⟩ := h
    exact ⟨vs, h3, ai_vs_more q h4⟩
/-- the made cells and where they lie -/
def ai_w (Z : ai_S) (cn : Nat → String) (sa : Nat → Nat) (ad : List Nat) (tys : List (ClassId × FieldType)) (h : List ai_C) (ws : va_W) : Prop :=
  ws.length = h.length ∧ ad.length = h.length ∧ ∀ (i : Nat) (x : ai_C), h[i]? = some x → ∃ (a : Nat) (E : va_E), ad[i]? = some a ∧ ws[i]? = some (a, E) ∧ ai_c Z cn sa ad tys x E
theorem ai_w_at {Z : ai_S} {cn : Nat → String} {sa : Nat → Nat} {ad : List Nat} {tys : List (ClassId × FieldType)} {h : List ai_C} {ws : va_W} (hw : ai_w Z cn sa ad tys h ws) {i : Nat} {x : ai_C} (hi : h[i]? = some x) {V : Value} (hV : ai_v sa ad (.ref i) V) : ∃ (a : Nat) (E : va_E), V = .ref a ∧ ws[i]? = some (a, E) ∧ ai_c Z cn sa ad tys x E := by
  obtain ⟨a, E, h1, h2, h3⟩ := hw.2.2 i x hi
  obtain ⟨a', h4, rfl⟩ := hV
  rw [h1] at h4
  cases h4
  exact ⟨a, E, rfl, h2, h3⟩
theorem ai_w_set {Z : ai_S} {cn : Nat → String} {sa : Nat → Nat} {ad : List Nat} {tys : List (ClassId × FieldType)} {h : List ai_C} {ws : va_W} (hw : ai_w Z cn sa ad tys h ws) {i a : Nat} {x : ai_C} {E E0 : va_E} (h0 : ws[i]? = some (a, E0)) (hc : ai_c Z cn sa ad tys x E) : ai_w Z cn sa ad tys (h.set i x) (ws.set i (a, E)) := by
  obtain ⟨w1, w2, w3⟩ := hw
  refine ⟨by simp [w1], by simp [w2], fun j y hj => ?_⟩
  have hiw : i < ws.length := (List.getElem?_eq_some_iff.mp h0).1
  by_cases hji : j = i
  · subst hji
    rw [List.getElem?_set_self (by omega)] at hj
    cases hj
    have hx : h[j]? = some h[j] := List.getElem?_eq_getElem (by omega)
    obtain ⟨a', E', g1, g2, g3⟩ := w3 j _ hx
    rw [h0] at g2
    cases g2
    exact ⟨a, E, g1, List.getElem?_set_self hiw, hc⟩
  · rw [List.getElem?_set_ne (fun z => hji z.symm)] at hj
    obtain ⟨a', E', g1, g2, g3⟩ := w3 j y hj
    exact ⟨a', E', g1, by rw [List.getElem?_set_ne (fun z => hji z.symm)]; exact g2, g3⟩
theorem ai_w_push {Z : ai_S} {cn : Nat → String} {sa : Nat → Nat} {ad : List Nat} {tys t : List (ClassId × FieldType)} {h : List ai_C} {ws : va_W} (hw : ai_w Z cn sa ad tys h ws) {a : Nat} {x : ai_C} {E : va_E} (hc : ai_c Z cn sa (ad ++ [a]) (tys ++ t) x E) : ai_w Z cn sa (ad ++ [a]) (tys ++ t) (h ++ [x]) (ws ++ [(a, E)]) := by
  obtain ⟨w1, w2, w3⟩ := hw
  refine ⟨by simp [w1], by simp [w2], fun j y hj => ?_⟩
  by_cases hlt : j < h.length
  · rw [List.getElem?_append_left hlt] at hj
    obtain ⟨a', E', g1, g2, g3⟩ := w3 j y hj
    exact ⟨a', E', by rw [List.getElem?_append_left (by omega)]; exact g1, by rw [List.getElem?_append_left (by omega)]; exact g2, ai_c_more g3 [a] t⟩
  · have hj1 : j < (h ++ [x]).length := (List.getElem?_eq_some_iff.mp hj).1
    have hj2 : j = h.length := by simp at hj1; omega
    subst hj2
    rw [List.getElem?_append_right (Nat.le_refl _)] at hj
    simp at hj
    subst hj
    exact ⟨a, E, by rw [List.getElem?_append_right (by omega), w2]; simp, by rw [List.getElem?_append_right (by omega), w1]; simp, hc⟩
theorem ai_v_new {sa : Nat → Nat} {ad : List Nat} {a n : Nat} (h : ad.length = n) : ai_v sa (ad ++ [a]) (.ref n) (.ref a) := by
  refine ⟨a, ?_, rfl⟩
  rw [List.getElem?_append_right (by omega), h]
  simp
