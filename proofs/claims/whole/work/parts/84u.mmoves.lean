/-! THE MODEL: BRACKETS THAT WAIT AND BRACKETS THAT ARE THERE. (Printed by wip/whole/pp.py from wip/whole/src.) -/
section MMV
variable {e : zE} {U V V' : List Nat} {W : zK} {J : List zJ} {rf bf : Nat → Int32} {k0 : Nat}
/-- the rows of items and of brackets show the items, where brackets at the places V are to come -/
def mjv (e : zE) (V : List Nat) (J : List zJ) (rf bf : Nat → Int32) : Prop := ∀ k a, J[k]? = some a → rf k = a.1 ∧ jc e a ∧ bf k = nI (a.2.2.1 - V.count (jo J k) + 65536 * a.2.2.2) ∧ V.count (jo J k) ≤ a.2.2.1 ∧ a.2.2.2 ≤ 400
theorem jopen_get {i : Nat} {b : zJ} (hk : k0 < J.length) (h : (jopen J k0)[i]? = some b) : ∃ a, J[i]? = some a ∧ b = (a.1, a.2.1, if i = k0 then a.2.2.1 + 1 else a.2.2.1, a.2.2.2) := by
  unfold jopen at h
  rw [List.getElem?_set] at h
  split at h
  · rename_i e1
    subst e1
    have hg : J[k0]? = some J[k0] := List.getElem?_eq_getElem hk
    rw [hg] at h
    have h2 := Option.some.inj h
    refine ⟨J[k0], hg, ?_⟩
    rw [if_pos rfl]
    exact h2.symm
  · rename_i e1
    refine ⟨b, h, ?_⟩
    rw [if_neg (fun q => e1 q.symm)]
theorem jopen_length : (jopen J k0).length = J.length := by
  unfold jopen
  rw [List.length_set]
theorem jclose_get {i : Nat} {b : zJ} (hk : k0 < J.length) (h : (jclose J k0)[i]? = some b) : ∃ a, J[i]? = some a ∧ b = (a.1, a.2.1, a.2.2.1, if i = k0 then a.2.2.2 + 1 else a.2.2.2) := by
  unfold jclose at h
  rw [List.getElem?_set] at h
  split at h
  · rename_i e1
    subst e1
    have hg : J[k0]? = some J[k0] := List.getElem?_eq_getElem hk
    rw [hg] at h
    have h2 := Option.some.inj h
    refine ⟨J[k0], hg, ?_⟩
    rw [if_pos rfl]
    exact h2.symm
  · rename_i e1
    refine ⟨b, h, ?_⟩
    rw [if_neg (fun q => e1 q.symm)]
theorem jclose_length : (jclose J k0).length = J.length := by
  unfold jclose
  rw [List.length_set]
theorem jundo_get {i : Nat} {b : zJ} (hk : k0 < J.length) (h : (jundo J k0)[i]? = some b) : ∃ a, J[i]? = some a ∧ b = (a.1, a.2.1, a.2.2.1, if i = k0 then a.2.2.2 - 1 else a.2.2.2) := by
  unfold jundo at h
  rw [List.getElem?_set] at h
  split at h
  · rename_i e1
    subst e1
    have hg : J[k0]? = some J[k0] := List.getElem?_eq_getElem hk
    rw [hg] at h
    have h2 := Option.some.inj h
    refine ⟨J[k0], hg, ?_⟩
    rw [if_pos rfl]
    exact h2.symm
  · rename_i e1
    refine ⟨b, h, ?_⟩
    rw [if_neg (fun q => e1 q.symm)]
theorem jundo_length : (jundo J k0).length = J.length := by
  unfold jundo
  rw [List.length_set]
theorem jsum_set {a b : zJ} (h : J[k0]? = some a) : jsum (J.set k0 b) + a.2.2.1 = jsum J + b.2.2.1 := by
  induction J generalizing k0 with
  | nil => cases h
  | cons c J ih =>
    cases k0 with
    | zero =>
      cases h
      show b.2.2.1 + jsum J + _ = a.2.2.1 + jsum J + _
      omega
    | succ k =>
      have := ih (k0 := k) h
      show c.2.2.1 + jsum (J.set k b) + _ = c.2.2.1 + jsum J + _
      omega
theorem jsum_open (hk : k0 < J.length) : jsum (jopen J k0) = jsum J + 1 := by
  have h := List.getElem?_eq_getElem hk
  have := jsum_set (b := (J[k0].1, J[k0].2.1, J[k0].2.2.1 + 1, J[k0].2.2.2)) h
  have e1 : jopen J k0 = J.set k0 (J[k0].1, J[k0].2.1, J[k0].2.2.1 + 1, J[k0].2.2.2) := by
    unfold jopen
    rw [h]
  rw [e1]
  dsimp only at this
  omega
theorem jsum_close (hk : k0 < J.length) : jsum (jclose J k0) = jsum J := by
  have h := List.getElem?_eq_getElem hk
  have := jsum_set (b := (J[k0].1, J[k0].2.1, J[k0].2.2.1, J[k0].2.2.2 + 1)) h
  have e1 : jclose J k0 = J.set k0 (J[k0].1, J[k0].2.1, J[k0].2.2.1, J[k0].2.2.2 + 1) := by
    unfold jclose
    rw [h]
  rw [e1]
  dsimp only at this
  omega
theorem jsum_undo (hk : k0 < J.length) : jsum (jundo J k0) = jsum J := by
  have h := List.getElem?_eq_getElem hk
  have := jsum_set (b := (J[k0].1, J[k0].2.1, J[k0].2.2.1, J[k0].2.2.2 - 1)) h
  have e1 : jundo J k0 = J.set k0 (J[k0].1, J[k0].2.1, J[k0].2.2.1, J[k0].2.2.2 - 1) := by
    unfold jundo
    rw [h]
  rw [e1]
  dsimp only at this
  omega
/-- a bracket that waited is there, and closed -/
theorem mjv_close (hv : mjv e V J rf bf) (h0 : k0 < J.length) (hcnt : ∀ x, V.count x = V'.count x + if x = jo J k0 then 1 else 0) (hcl : ∀ a, J[J.length - 1]? = some a → a.2.2.2 + 1 ≤ 400) : mjv e V' (jclose J (J.length - 1)) rf (upd (upd bf k0 (bf k0 + 1)) (J.length - 1) (upd bf k0 (bf k0 + 1) (J.length - 1) + 65536)) := by
  intro k b hb
  obtain ⟨a, ha, rfl⟩ := jclose_get (by omega) hb
  have hk := (List.getElem?_eq_some_iff.mp ha).1
  obtain ⟨w1, w2, w3, w4, w5⟩ := hv k a ha
  rw [(jr_close (by omega)).2 k hk]
  have hc := hcnt (jo J k)
  have hb' : upd bf k0 (bf k0 + 1) k = nI (a.2.2.1 - V'.count (jo J k) + 65536 * a.2.2.2) := by
    unfold upd
    by_cases q : k = k0
    · rw [if_pos q, ← q, w3, nI_1]
      rw [if_pos (by rw [q])] at hc
      exact congrArg nI (by omega)
    · rw [if_neg q, w3]
      rw [if_neg (fun q2 => q (jo_inj (by omega) (by omega) q2))] at hc
      exact congrArg nI (by omega)
  refine ⟨w1, w2, ?_, ?_, ?_⟩
  · dsimp only
    by_cases q : k = J.length - 1
    · subst q
      have e2 : upd (upd bf k0 (bf k0 + 1)) (J.length - 1) (upd bf k0 (bf k0 + 1) (J.length - 1) + 65536) (J.length - 1) = upd bf k0 (bf k0 + 1) (J.length - 1) + 65536 := if_pos rfl
      rw [e2, hb', if_pos rfl, show nI (a.2.2.1 - V'.count (jo J (J.length - 1)) + 65536 * a.2.2.2) + 65536 = nI (a.2.2.1 - V'.count (jo J (J.length - 1)) + 65536 * a.2.2.2 + 65536) from nI_add _ 65536]
      exact congrArg nI (by omega)
    · have e2 : upd (upd bf k0 (bf k0 + 1)) (J.length - 1) (upd bf k0 (bf k0 + 1) (J.length - 1) + 65536) k = upd bf k0 (bf k0 + 1) k := if_neg q
      rw [e2, hb', if_neg q]
  · dsimp only
    omega
  · dsimp only
    by_cases q : k = J.length - 1
    · rw [if_pos q]
      rw [q] at ha
      exact hcl a ha
    · rw [if_neg q]
      exact w5
/-- a bracket is there, and waits -/
theorem mjv_open (hv : mjv e V J rf bf) (h0 : k0 < J.length) (hle : ∀ x ∈ V, x ≤ jo J k0) : mjv e (jo J k0 :: V) (jopen J k0) rf bf := by
  intro k b hb
  obtain ⟨a, ha, rfl⟩ := jopen_get h0 hb
  have hk := (List.getElem?_eq_some_iff.mp ha).1
  obtain ⟨w1, w2, w3, w4, w5⟩ := hv k a ha
  rcases Nat.lt_trichotomy k k0 with q | q | q
  · have e1 := (jr_open h0).2 k (by omega)
    have e2 : jo J k < jo J k0 := jo_lt q (by omega)
    rw [e1, List.count_cons_of_ne (by omega), if_neg (by omega)]
    exact ⟨w1, w2, w3, w4, w5⟩
  · subst q
    rw [(jr_open h0).2 k (Nat.le_refl _), List.count_cons_self, if_pos rfl]
    refine ⟨w1, w2, ?_, ?_, w5⟩
    · rw [w3]
      dsimp only
      exact congrArg nI (by omega)
    · dsimp only
      omega
  · have e1 := (jr_open h0).2 k0 (Nat.le_refl _)
    have e2 : jo (jopen J k0) k0 < jo (jopen J k0) k := jo_lt q (by rw [jopen_length]; omega)
    have e3 : jo J k0 < jo J k := jo_lt q (by omega)
    have z1 : V.count (jo (jopen J k0) k) = 0 := List.count_eq_zero.mpr (fun hm => by have := hle _ hm; omega)
    have z2 : V.count (jo J k) = 0 := List.count_eq_zero.mpr (fun hm => by have := hle _ hm; omega)
    rw [List.count_cons_of_ne (by omega), if_neg (by omega), z1]
    rw [z2] at w3
    exact ⟨w1, w2, w3, Nat.zero_le _, w5⟩
/-- a bracket that was closed waits again -/
theorem mjv_undo (hv : mjv e V J rf bf) (h0 : k0 < J.length) (hb0 : ∀ a, J[k0]? = some a → V.count (jo J k0) + 1 ≤ a.2.2.1) (hcl : ∀ a, J[J.length - 1]? = some a → 1 ≤ a.2.2.2) : mjv e (jo J k0 :: V) (jundo J (J.length - 1)) rf (upd (upd bf k0 (bf k0 - 1)) (J.length - 1) (upd bf k0 (bf k0 - 1) (J.length - 1) - 65536)) := by
  intro k b hb
  obtain ⟨a, ha, rfl⟩ := jundo_get (by omega) hb
  have hk := (List.getElem?_eq_some_iff.mp ha).1
  obtain ⟨w1, w2, w3, w4, w5⟩ := hv k a ha
  rw [(jr_undo (by omega) hcl).2 k hk]
  have hb' : upd bf k0 (bf k0 - 1) k = nI (a.2.2.1 - (jo J k0 :: V).count (jo J k) + 65536 * a.2.2.2) ∧ (jo J k0 :: V).count (jo J k) ≤ a.2.2.1 := by
    unfold upd
    by_cases q : k = k0
    · subst q
      have := hb0 a ha
      rw [if_pos rfl, w3, List.count_cons_self]
      rw [show nI (a.2.2.1 - V.count (jo J k) + 65536 * a.2.2.2) - 1 = nI (a.2.2.1 - V.count (jo J k) + 65536 * a.2.2.2 - 1) from nI_sub (b := 1) (by omega)]
      refine ⟨?_, by omega⟩
      exact congrArg nI (by omega)
    · have hne : jo J k ≠ jo J k0 := fun q2 => q (jo_inj (by omega) (by omega) q2)
      rw [if_neg q, w3, List.count_cons_of_ne (by omega)]
      exact ⟨rfl, w4⟩
  refine ⟨w1, w2, ?_, hb'.2, ?_⟩
  · dsimp only
    by_cases q : k = J.length - 1
    · subst q
      have c1 := hcl a ha
      have e2 : upd (upd bf k0 (bf k0 - 1)) (J.length - 1) (upd bf k0 (bf k0 - 1) (J.length - 1) - 65536) (J.length - 1) = upd bf k0 (bf k0 - 1) (J.length - 1) - 65536 := if_pos rfl
      generalize (jo J k0 :: V).count (jo J (J.length - 1)) = c at hb' ⊢
      rw [e2, hb'.1, if_pos rfl, show nI (a.2.2.1 - c + 65536 * a.2.2.2) - 65536 = nI (a.2.2.1 - c + 65536 * a.2.2.2 - 65536) from nI_sub (b := 65536) (by omega)]
      exact congrArg nI (by omega)
    · have e2 : upd (upd bf k0 (bf k0 - 1)) (J.length - 1) (upd bf k0 (bf k0 - 1) (J.length - 1) - 65536) k = upd bf k0 (bf k0 - 1) k := if_neg q
      rw [e2, hb'.1, if_neg q]
  · dsimp only
    split <;> omega
/-- a token more, with n brackets before it that wait -/
theorem mjv_add {i n : Nat} (hv : mjv e V J rf bf) (hi : i < e.1.length) (hk : ztk e i < 102) (hle : ∀ x ∈ V, x < (jr J).length) (hn : n ≤ 1) : mjv e (if n = 1 then (jr J).length :: V else V) (J ++ [(nI i, zit e i, n, 0)]) (upd rf J.length (nI i)) (upd bf J.length 0) := by
  intro k b hb
  rcases Nat.lt_or_ge k J.length with q | q
  · rw [List.getElem?_append_left q] at hb
    obtain ⟨w1, w2, w3, w4, w5⟩ := hv k b hb
    have e1 : jo J k < (jr J).length := by
      rw [← jo_len]
      exact jo_lt q (Nat.le_refl _)
    have e2 : (if n = 1 then (jr J).length :: V else V).count (jo J k) = V.count (jo J k) := by
      split
      · exact List.count_cons_of_ne (by omega)
      · rfl
    unfold upd
    rw [if_neg (by omega), if_neg (by omega), jo_app (by omega), e2]
    exact ⟨w1, w2, w3, w4, w5⟩
  · have hk2 : k = J.length := by
      have := (List.getElem?_eq_some_iff.mp hb).1
      rw [List.length_append] at this
      simp only [List.length_cons, List.length_nil] at this
      omega
    subst hk2
    rw [List.getElem?_append_right (Nat.le_refl _), Nat.sub_self] at hb
    cases hb
    unfold upd
    rw [if_pos rfl, if_pos rfl, jo_app (Nat.le_refl _), jo_len]
    have z1 : V.count (jr J).length = 0 := List.count_eq_zero.mpr (fun hm => by have := hle _ hm; omega)
    have e2 : (if n = 1 then (jr J).length :: V else V).count (jr J).length = n := by
      split
      · rename_i e3
        rw [List.count_cons_self, z1, e3]
      · rw [z1]; omega
    rw [e2]
    dsimp only
    refine ⟨rfl, Or.inl ⟨i, hi, hk, rfl, rfl⟩, ?_, Nat.le_refl _, by decide⟩
    rw [Nat.sub_self]
    rfl
end MMV
