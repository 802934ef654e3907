/-! THE MODEL'S ROW OF ITEMS, AND THE PLAIN FORM THAT IT STANDS FOR. -/
section ZJ
/-- so many brackets -/
def jb (c : Int32) : Nat → List Int32
  | 0 => []
  | n + 1 => c :: 32 :: jb c n
/-- an item: its number, its text, how many ( before it, how many ) behind it -/
abbrev zJ : Type := Int32 × List Int32 × Nat × Nat
def jw (a : zJ) : List Int32 := jb 40 a.2.2.1 ++ a.2.1 ++ [32] ++ jb 41 a.2.2.2
def jr : List zJ → List Int32
  | [] => []
  | a :: J => jw a ++ jr J
/-- where the k-th item begins -/
def jo (J : List zJ) (k : Nat) : Nat := (jr (J.take k)).length
theorem jb_len (c : Int32) (n : Nat) : (jb c n).length = 2 * n := by
  induction n with
  | zero => rfl
  | succ n ih => simp only [jb, List.length_cons, ih]; omega
theorem jb_app (c : Int32) (n : Nat) : jb c n ++ [c, 32] = jb c (n + 1) := by
  induction n with
  | zero => rfl
  | succ n ih =>
    show c :: 32 :: (jb c n ++ [c, 32]) = _
    rw [ih]; rfl
theorem jr_app (J K : List zJ) : jr (J ++ K) = jr J ++ jr K := by
  induction J with
  | nil => rfl
  | cons a J ih =>
    show jw a ++ jr (J ++ K) = (jw a ++ jr J) ++ jr K
    rw [ih, List.append_assoc]
theorem jr_one (a : zJ) : jr [a] = jw a := by
  show jw a ++ [] = _
  rw [List.append_nil]
/-- a token more -/
theorem jr_add (J : List zJ) (c : Int32) (t : List Int32) : jr (J ++ [(c, t, 0, 0)]) = jr J ++ t ++ [32] := by
  rw [jr_app, jr_one]
  show jr J ++ ([] ++ t ++ [32] ++ []) = _
  rw [List.nil_append, List.append_nil, List.append_assoc]
theorem jo_app {J K : List zJ} {k : Nat} (h : k ≤ J.length) : jo (J ++ K) k = jo J k := by
  unfold jo
  rw [List.take_append_of_le_length h]
theorem jo_len (J : List zJ) : jo J J.length = (jr J).length := by
  unfold jo
  rw [List.take_length]
theorem jw_len (a : zJ) : 1 ≤ (jw a).length := by
  unfold jw
  simp only [List.length_append, List.length_cons, List.length_nil]
  omega
theorem jo_lt {J : List zJ} {i k : Nat} (h : i < k) (hk : k ≤ J.length) : jo J i < jo J k := by
  induction k with
  | zero => omega
  | succ k ih =>
    have e1 : jo J (k + 1) = jo J k + (jw J[k]).length := by
      unfold jo
      rw [List.take_succ_eq_append_getElem (by omega), jr_app, jr_one, List.length_append]
    have := jw_len J[k]
    rcases Nat.lt_or_ge i k with q | q
    · have := ih q (by omega); omega
    · have : i = k := by omega
      subst this
      omega
theorem jo_inj {J : List zJ} {i k : Nat} (hi : i ≤ J.length) (hk : k ≤ J.length) (h : jo J i = jo J k) : i = k := by
  rcases Nat.lt_trichotomy i k with q | q | q
  · have := jo_lt q hk; omega
  · exact q
  · have := jo_lt q hi; omega
theorem jo_le {J : List zJ} {k : Nat} (hk : k ≤ J.length) : jo J k ≤ (jr J).length := by
  rw [← jo_len]
  rcases Nat.lt_or_ge k J.length with q | q
  · exact Nat.le_of_lt (jo_lt q (Nat.le_refl _))
  · have : k = J.length := by omega
    rw [this]; exact Nat.le_refl _
/-- one more ( before the k-th -/
def jopen (J : List zJ) (k : Nat) : List zJ := J.set k (match J[k]? with | some a => (a.1, a.2.1, a.2.2.1 + 1, a.2.2.2) | none => (0, [], 0, 0))
/-- one more ) behind the k-th -/
def jclose (J : List zJ) (k : Nat) : List zJ := J.set k (match J[k]? with | some a => (a.1, a.2.1, a.2.2.1, a.2.2.2 + 1) | none => (0, [], 0, 0))
/-- one less -/
def jundo (J : List zJ) (k : Nat) : List zJ := J.set k (match J[k]? with | some a => (a.1, a.2.1, a.2.2.1, a.2.2.2 - 1) | none => (0, [], 0, 0))
theorem j_split {J : List zJ} {k : Nat} (hk : k < J.length) (b : zJ) : J = J.take k ++ J[k] :: J.drop (k + 1) ∧ J.set k b = J.take k ++ b :: J.drop (k + 1) := by
  constructor
  · rw [← List.drop_eq_getElem_cons hk, List.take_append_drop]
  · rw [List.set_eq_take_append_cons_drop, if_pos hk]
theorem jr_open {J : List zJ} {k : Nat} (hk : k < J.length) : jr (jopen J k) = (jr J).take (jo J k) ++ [40, 32] ++ (jr J).drop (jo J k) ∧ (∀ i, i ≤ k → jo (jopen J k) i = jo J i) := by
  have hg : J[k]? = some J[k] := List.getElem?_eq_getElem hk
  obtain ⟨s1, s2⟩ := j_split hk (J[k].1, J[k].2.1, J[k].2.2.1 + 1, J[k].2.2.2)
  have e1 : jopen J k = J.take k ++ (J[k].1, J[k].2.1, J[k].2.2.1 + 1, J[k].2.2.2) :: J.drop (k + 1) := by
    unfold jopen
    rw [hg]
    exact s2
  have e2 : jr J = jr (J.take k) ++ (jw J[k] ++ jr (J.drop (k + 1))) := by
    conv => lhs; rw [s1]
    rw [jr_app]; rfl
  refine ⟨?_, fun i hi => ?_⟩
  · rw [e1, jr_app, e2]
    unfold jo
    rw [List.take_left, List.drop_left]
    show jr (J.take k) ++ ((40 :: 32 :: jb 40 J[k].2.2.1 ++ J[k].2.1 ++ [32] ++ jb 41 J[k].2.2.2) ++ jr (J.drop (k + 1))) = _
    simp [jw]
  · unfold jo
    rw [e1, List.take_append_of_le_length (by rw [List.length_take]; omega), List.take_take, Nat.min_eq_left hi]
theorem jr_close {J : List zJ} (hk : 0 < J.length) : jr (jclose J (J.length - 1)) = jr J ++ [41, 32] ∧ (∀ i, i < J.length → jo (jclose J (J.length - 1)) i = jo J i) := by
  have hk : J.length - 1 < J.length := by omega
  have hg : J[J.length - 1]? = some J[J.length - 1] := List.getElem?_eq_getElem hk
  obtain ⟨s1, s2⟩ := j_split hk (J[J.length - 1].1, J[J.length - 1].2.1, J[J.length - 1].2.2.1, J[J.length - 1].2.2.2 + 1)
  have hd : J.drop (J.length - 1 + 1) = [] := List.drop_eq_nil_of_le (by omega)
  rw [hd] at s1 s2
  have e1 : jclose J (J.length - 1) = J.take (J.length - 1) ++ [(J[J.length - 1].1, J[J.length - 1].2.1, J[J.length - 1].2.2.1, J[J.length - 1].2.2.2 + 1)] := by
    unfold jclose
    rw [hg]
    exact s2
  have e2 : jr J = jr (J.take (J.length - 1)) ++ jw J[J.length - 1] := by
    conv => lhs; rw [s1]
    rw [jr_app, jr_one]
  refine ⟨?_, fun i hi => ?_⟩
  · rw [e1, jr_app, jr_one, e2, List.append_assoc]
    congr 1
    unfold jw
    dsimp only
    rw [← jb_app]
    simp
  · unfold jo
    rw [e1, List.take_append_of_le_length (by rw [List.length_take]; omega), List.take_take, Nat.min_eq_left (by omega)]
theorem jr_undo {J : List zJ} (hk : 0 < J.length) (hc : ∀ a, J[J.length - 1]? = some a → 1 ≤ a.2.2.2) : jr (jundo J (J.length - 1)) = (jr J).take ((jr J).length - 2) ∧ (∀ i, i < J.length → jo (jundo J (J.length - 1)) i = jo J i) := by
  have hk : J.length - 1 < J.length := by omega
  have hg : J[J.length - 1]? = some J[J.length - 1] := List.getElem?_eq_getElem hk
  have hc1 := hc _ hg
  obtain ⟨s1, s2⟩ := j_split hk (J[J.length - 1].1, J[J.length - 1].2.1, J[J.length - 1].2.2.1, J[J.length - 1].2.2.2 - 1)
  have hd : J.drop (J.length - 1 + 1) = [] := List.drop_eq_nil_of_le (by omega)
  rw [hd] at s1 s2
  have e1 : jundo J (J.length - 1) = J.take (J.length - 1) ++ [(J[J.length - 1].1, J[J.length - 1].2.1, J[J.length - 1].2.2.1, J[J.length - 1].2.2.2 - 1)] := by
    unfold jundo
    rw [hg]
    exact s2
  have e2 : jr J = jr (jundo J (J.length - 1)) ++ [41, 32] := by
    conv => lhs; rw [s1]
    rw [e1, jr_app, jr_one, jr_app, jr_one, List.append_assoc]
    congr 1
    unfold jw
    dsimp only
    obtain ⟨m, hm⟩ : ∃ m, J[J.length - 1].2.2.2 = m + 1 := ⟨J[J.length - 1].2.2.2 - 1, by omega⟩
    rw [hm, ← jb_app]
    simp
  refine ⟨?_, fun i hi => ?_⟩
  · conv => rhs; rw [e2]
    simp
  · unfold jo
    rw [e1, List.take_append_of_le_length (by rw [List.length_take]; omega), List.take_take, Nat.min_eq_left (by omega)]
end ZJ
