/-! WHAT THE SMALL MACHINE'S STATE IS IN THE LARGE ONE. sa: where the constant objects lie; ad: where the made cells lie. -/
def ai_v (sa : Nat → Nat) (ad : List Nat) (v V : Value) : Prop := match v with
  | .int x => V = .int x
  | .long x => V = .long x
  | .null => V = .null
  | .ref i => ∃ a, ad[i]? = some a ∧ V = .ref a
  | .retAddr k => V = .ref (sa k)
  | .float _ => V = .null ∨ ∃ a, V = .ref a
  | .double _ => False
def ai_vs (sa : Nat → Nat) (ad : List Nat) : List Value → List Value → Prop
  | [], [] => True
  | v :: S, V :: T => ai_v sa ad v V ∧ ai_vs sa ad S T
  | _, _ => False
theorem ai_v_cat {sa : Nat → Nat} {ad : List Nat} {v V : Value} (h : ai_v sa ad v V) : V.category = v.category := by
  cases v with
  | int x => rw [show V = .int x from h]
  | long x => rw [show V = .long x from h]
  | null => rw [show V = .null from h]
  | ref i => obtain ⟨a, -, rfl⟩ := h; rfl
  | retAddr k => rw [show V = .ref (sa k) from h]; rfl
  | float b => rcases h with rfl | ⟨a, rfl⟩ <;> rfl
  | double b => exact h.elim
theorem ai_v_more {sa : Nat → Nat} {ad : List Nat} {v V : Value} (h : ai_v sa ad v V) (q : List Nat) : ai_v sa (ad ++ q) v V := by
  cases v with
  | ref i =>
    obtain ⟨a, h1, rfl⟩ := h
    exact ⟨a, by rw [List.getElem?_append_left (List.getElem?_eq_some_iff.mp h1).1]; exact h1, rfl⟩
  | _ => exact h
theorem ai_vs_more {sa : Nat → Nat} {ad : List Nat} (q : List Nat) : ∀ {S T : List Value}, ai_vs sa ad S T → ai_vs sa (ad ++ q) S T
  | [], [], _ => trivial
  | _ :: _, _ :: _, h => ⟨ai_v_more h.1 q, ai_vs_more q h.2⟩
theorem ai_vs_cons {sa : Nat → Nat} {ad : List Nat} {v : Value} {S T : List Value} (h : ai_vs sa ad (v :: S) T) : ∃ V T', T = V :: T' ∧ ai_v sa ad v V ∧ ai_vs sa ad S T' := by
  cases T with
  | nil => exact h.elim
  | cons V T' => exact ⟨V, T', rfl, h.1, h.2⟩
theorem ai_vs_nil {sa : Nat → Nat} {ad : List Nat} {T : List Value} (h : ai_vs sa ad [] T) : T = [] := by
  cases T with
  | nil => rfl
  | cons V T' => exact h.elim
theorem ai_vs_get {sa : Nat → Nat} {ad : List Nat} : ∀ {S T : List Value} {k : Nat} {v : Value}, ai_vs sa ad S T → S[k]? = some v → ∃ V, T[k]? = some V ∧ ai_v sa ad v V
  | [], _, k, v, _, h => by simp at h
  | w :: S, T, 0, v, h, hk => by
    obtain ⟨V, T', rfl, h1, h2⟩ := ai_vs_cons h
    simp at hk; subst hk
    exact ⟨V, rfl, h1⟩
  | w :: S, T, k + 1, v, h, hk => by
    obtain ⟨V, T', rfl, h1, h2⟩ := ai_vs_cons h
    simp only [List.getElem?_cons_succ] at hk ⊢
    exact ai_vs_get h2 hk
theorem ai_vs_len {sa : Nat → Nat} {ad : List Nat} : ∀ {S T : List Value}, ai_vs sa ad S T → T.length = S.length
  | [], T, h => by rw [ai_vs_nil h]
  | w :: S, T, h => by
    obtain ⟨V, T', rfl, h1, h2⟩ := ai_vs_cons h
    simp [ai_vs_len h2]
theorem ai_vs_set {sa : Nat → Nat} {ad : List Nat} {v V : Value} (hv : ai_v sa ad v V) : ∀ {S T : List Value} (k : Nat), ai_vs sa ad S T → ai_vs sa ad (S.set k v) (T.set k V)
  | [], T, k, h => by rw [ai_vs_nil h]; trivial
  | w :: S, T, 0, h => by
    obtain ⟨W', T', rfl, h1, h2⟩ := ai_vs_cons h
    exact ⟨hv, h2⟩
  | w :: S, T, k + 1, h => by
    obtain ⟨W', T', rfl, h1, h2⟩ := ai_vs_cons h
    exact ⟨h1, ai_vs_set hv k h2⟩
theorem ai_vs_wt {sa : Nat → Nat} {ad : List Nat} : ∀ {S T : List Value}, ai_vs sa ad S T → ai_wt T = ai_wt S
  | [], T, h => by rw [ai_vs_nil h]
  | w :: S, T, h => by
    obtain ⟨V, T', rfl, h1, h2⟩ := ai_vs_cons h
    have := ai_vs_wt h2
    simp only [ai_wt, List.map_cons, List.sum_cons] at this ⊢
    rw [this, ai_v_cat h1]
theorem ai_vs_app {sa : Nat → Nat} {ad : List Nat} : ∀ {S T S' T' : List Value}, ai_vs sa ad S T → ai_vs sa ad S' T' → ai_vs sa ad (S ++ S') (T ++ T')
  | [], T, S', T', h, h' => by rw [ai_vs_nil h]; exact h'
  | w :: S, T, S', T', h, h' => by
    obtain ⟨V, T2, rfl, h1, h2⟩ := ai_vs_cons h
    exact ⟨h1, ai_vs_app h2 h'⟩
theorem ai_vs_split {sa : Nat → Nat} {ad : List Nat} : ∀ (n : Nat) {S T : List Value}, ai_vs sa ad S T → ai_vs sa ad (S.take n) (T.take n) ∧ ai_vs sa ad (S.drop n) (T.drop n)
  | 0, S, T, h => ⟨by simp only [List.take_zero]; trivial, h⟩
  | n + 1, [], T, h => by rw [ai_vs_nil h]; exact ⟨trivial, trivial⟩
  | n + 1, w :: S, T, h => by
    obtain ⟨V, T2, rfl, h1, h2⟩ := ai_vs_cons h
    obtain ⟨q1, q2⟩ := ai_vs_split n h2
    exact ⟨⟨h1, q1⟩, q2⟩
theorem ai_vs_rev {sa : Nat → Nat} {ad : List Nat} : ∀ {S T : List Value}, ai_vs sa ad S T → ai_vs sa ad S.reverse T.reverse
  | [], T, h => by rw [ai_vs_nil h]; trivial
  | w :: S, T, h => by
    obtain ⟨V, T2, rfl, h1, h2⟩ := ai_vs_cons h
    rw [List.reverse_cons, List.reverse_cons]
    exact ai_vs_app (ai_vs_rev h2) ⟨h1, trivial⟩
/-- the locals: those that the small machine knows are held; none is a long -/
def ai_l (sa : Nat → Nat) (ad : List Nat) (L : ai_L) (n : Nat) (ls : Array Slot) : Prop :=
  L.length = n ∧ ∃ lv : List (Nat × Value), lv_has ls n lv ∧ (∀ q ∈ lv, q.2.category = 1) ∧ ∀ i v, L[i]? = some (some v) → ∃ V, ai_v sa ad v V ∧ (i, V) ∈ lv
theorem ai_l_more {sa : Nat → Nat} {ad : List Nat} {L : ai_L} {n : Nat} {ls : Array Slot} (h : ai_l sa ad L n ls) (q : List Nat) : ai_l sa (ad ++ q) L n ls := by
  obtain ⟨h0, lv, h1, h2, h3⟩ := h
  refine ⟨h0, lv, h1, h2, fun i v hi => ?_⟩
  obtain ⟨V, g1, g2⟩ := h3 i v hi
  exact ⟨V, ai_v_more g1 q, g2⟩
theorem ai_l_at {sa : Nat → Nat} {ad : List Nat} {L : ai_L} {n : Nat} {ls : Array Slot} (h : ai_l sa ad L n ls) {i : Nat} {v : Value} (hi : L[i]? = some (some v)) : ∃ V, ai_v sa ad v V ∧ ls[i]? = some (.val V) := by
  obtain ⟨h0, lv, h1, h2, h3⟩ := h
  obtain ⟨V, g1, g2⟩ := h3 i v hi
  exact ⟨V, g1, h1.2.2 _ g2⟩
/-- behind a store -/
theorem ai_l_set {sa : Nat → Nat} {ad : List Nat} {L : ai_L} {n i : Nat} {v V : Value} {ls' : Array Slot} {lv : List (Nat × Value)} (h0 : L.length = n) (h2 : ∀ q ∈ lv, q.2.category = 1) (h3 : ∀ i v, L[i]? = some (some v) → ∃ V, ai_v sa ad v V ∧ (i, V) ∈ lv) (hi : i < n) (hv : ai_v sa ad v V) (hc : v.category = 1)
    (h' : lv_has ls' n ((i, V) :: lv.filter (fun q => !(q.1 == i) && !(q.1 + 1 == i && q.2.category == 2)))) : ai_l sa ad (L.set i (some v)) n ls' := by
  refine ⟨by simp [h0], _, h', ?_, fun j w hj => ?_⟩
  · intro q hq
    rcases List.mem_cons.mp hq with rfl | hq
    · rw [ai_v_cat hv]; exact hc
    · exact h2 q (List.mem_filter.mp hq).1
  · by_cases hji : j = i
    · subst hji
      rw [List.getElem?_set_self (by omega)] at hj
      cases hj
      exact ⟨V, hv, List.mem_cons_self⟩
    · rw [List.getElem?_set_ne (fun z => hji z.symm)] at hj
      obtain ⟨W', g1, g2⟩ := h3 j w hj
      refine ⟨W', g1, List.mem_cons_of_mem _ (List.mem_filter.mpr ⟨g2, ?_⟩)⟩
      have := h2 _ g2
      simp [hji, this]
