/-! THE NAMES IN THE PLAIN FORM ARE THE NAMES AMONG THE ITEMS. (Printed by wip/whole/pp.py from wip/whole/src.) -/
section LNK
variable {T Q : List Int32} {J : List zJ}
def zwdL : List Int32 → List Int32
  | [] => []
  | c :: R => if c = 32 then [] else c :: zwdL R
def zscL : List Int32 → Int32 → Bool → List (List Int32)
  | [], _, _ => []
  | c :: R, bf, qd => if zbg bf c ∧ zqd c qd = false then zwdL (c :: R) :: zscL R c (zqd c qd) else zscL R c (zqd c qd)
theorem zna_L (hQ : ∀ i, i < Q.length → zat Q i = Q.getD i 0) : ∀ (m i : Nat), Q.length - i = m → zwd Q m i = zwdL (Q.drop i) := by
  intro m
  induction m with
  | zero => intro i hm; rw [List.drop_eq_nil_of_le (by omega)]; rfl
  | succ m ih =>
    intro i hm
    rw [drop_cons (x := 0) (show i < Q.length by omega)]
    show (if zat Q i = 32 then [] else zat Q i :: zwd Q m (i + 1)) = (if Q.getD i 0 = 32 then [] else Q.getD i 0 :: zwdL (Q.drop (i + 1)))
    rw [hQ i (by omega), ih (i + 1) (by omega)]
theorem zscn_L (hQ : ∀ i, i < Q.length → zat Q i = Q.getD i 0) : ∀ (m i : Nat) (bf : Int32) (qd : Bool), Q.length - i = m → (zscn Q m i bf qd).map (zna Q) = zscL (Q.drop i) bf qd := by
  intro m
  induction m with
  | zero => intro i bf qd hm; rw [List.drop_eq_nil_of_le (by omega)]; rfl
  | succ m ih =>
    intro i bf qd hm
    have hz : zna Q i = zwdL (Q.drop i) := zna_L hQ _ i rfl
    rw [drop_cons (x := 0) (show i < Q.length by omega)] at hz ⊢
    simp only [zscn, zscL]
    rw [hQ i (by omega)]
    split
    · rw [List.map_cons, hz, ih _ _ _ (by omega)]
    · exact ih _ _ _ (by omega)
theorem zwdL_end : ∀ (R : List Int32), zwdL (R ++ [32]) = zwdL R := by
  intro R
  induction R with
  | nil => rfl
  | cons c R ih =>
    show (if c = 32 then [] else c :: zwdL (R ++ [32])) = (if c = 32 then [] else c :: zwdL R)
    rw [ih]
theorem zscL_end : ∀ (R : List Int32) (bf : Int32) (qd : Bool), zscL (R ++ [32]) bf qd = zscL R bf qd := by
  intro R
  induction R with
  | nil =>
    intro bf qd
    show (if zbg bf 32 ∧ zqd 32 qd = false then zwdL [32] :: [] else []) = []
    rw [if_neg (fun q => by
      rcases q.1.2 with z | z
      · exact absurd z (by decide)
      · exact absurd z.1 (by decide))]
  | cons c R ih =>
    intro bf qd
    show (if zbg bf c ∧ zqd c qd = false then zwdL ((c :: R) ++ [32]) :: zscL (R ++ [32]) c (zqd c qd) else zscL (R ++ [32]) c (zqd c qd)) = (if zbg bf c ∧ zqd c qd = false then zwdL (c :: R) :: zscL R c (zqd c qd) else zscL R c (zqd c qd))
    rw [ih, zwdL_end]
theorem zqd_n {c : Int32} (h : c ≠ 39) (qd : Bool) : zqd c qd = qd := if_neg h
theorem zsc_no {c bf : Int32} {qd : Bool} {R : List Int32} (h : ¬ (zbg bf c ∧ zqd c qd = false)) : zscL (c :: R) bf qd = zscL R c (zqd c qd) := if_neg h
theorem zsc_32 {bf : Int32} {X : List Int32} : zscL (32 :: X) bf false = zscL X 32 false := zsc_no (fun q => by
  rcases q.1.2 with z | z
  · exact absurd z (by decide)
  · exact absurd z.1 (by decide))
theorem zsc_in : ∀ (U X : List Int32) (bf : Int32), bf ≠ 32 → (∀ c ∈ U, c ≠ 39 ∧ c ≠ 32) → zscL (U ++ 32 :: X) bf false = zscL X 32 false := by
  intro U
  induction U with
  | nil => intro X bf hb hU; exact zsc_32
  | cons c U ih =>
    intro X bf hb hU
    obtain ⟨h1, h2⟩ := hU c List.mem_cons_self
    rw [List.cons_append, zsc_no (fun q => hb q.1.1), zqd_n h1]
    exact ih X c h2 (fun x hx => hU x (List.mem_cons_of_mem _ hx))
theorem zwdL_U : ∀ (U X : List Int32), (∀ c ∈ U, c ≠ 39 ∧ c ≠ 32) → zwdL (U ++ 32 :: X) = U := by
  intro U
  induction U with
  | nil => intro X _; exact if_pos rfl
  | cons c U ih =>
    intro X hU
    show (if c = 32 then [] else c :: zwdL (U ++ 32 :: X)) = _
    rw [if_neg (hU c List.mem_cons_self).2, ih X (fun x hx => hU x (List.mem_cons_of_mem _ hx))]
/-- a word that is no name, a word that is one -/
theorem zsc_N {U X : List Int32} (hU : ∀ c ∈ U, c ≠ 39 ∧ c ≠ 32) (h0 : ∀ c V, U = c :: V → ¬ (c = 95 ∨ (¬ c < 97 ∧ ¬ 122 < c))) : zscL (U ++ 32 :: X) 32 false = zscL X 32 false := by
  cases U with
  | nil => exact zsc_32
  | cons c V =>
    obtain ⟨h1, h2⟩ := hU c List.mem_cons_self
    rw [List.cons_append, zsc_no (fun q => h0 c V rfl q.1.2), zqd_n h1]
    exact zsc_in V X c h2 (fun x hx => hU x (List.mem_cons_of_mem _ hx))
theorem zsc_Y {c : Int32} {V X : List Int32} (hU : ∀ x ∈ c :: V, x ≠ 39 ∧ x ≠ 32) (h0 : c = 95 ∨ (¬ c < 97 ∧ ¬ 122 < c)) : zscL ((c :: V) ++ 32 :: X) 32 false = (c :: V) :: zscL X 32 false := by
  obtain ⟨h1, h2⟩ := hU c List.mem_cons_self
  have e1 : zscL ((c :: V) ++ 32 :: X) 32 false = zwdL ((c :: V) ++ 32 :: X) :: zscL (V ++ 32 :: X) c (zqd c false) := if_pos ⟨⟨rfl, h0⟩, zqd_n h1 _⟩
  rw [e1, zwdL_U _ _ hU, zqd_n h1, zsc_in V X c h2 (fun x hx => hU x (List.mem_cons_of_mem _ hx))]
theorem zsc_jb {c : Int32} (hc : c = 40 ∨ c = 41) {X : List Int32} : ∀ n, zscL (jb c n ++ X) 32 false = zscL X 32 false := by
  intro n
  induction n with
  | zero => rfl
  | succ n ih =>
    have h1 : c ≠ 39 := by rcases hc with q | q <;> (rw [q]; decide)
    have h2 : ¬ (c = 95 ∨ (¬ c < 97 ∧ ¬ 122 < c)) := by rcases hc with q | q <;> (rw [q]; decide)
    show zscL (c :: 32 :: (jb c n ++ X)) 32 false = _
    rw [zsc_no (fun q => h2 q.1.2), zqd_n h1, zsc_32]
    exact ih
theorem zsc_39 {bf : Int32} {qd : Bool} {X : List Int32} : zscL (39 :: X) bf qd = zscL X 39 (!qd) := zsc_no (fun q => by
  rcases q.1.2 with z | z
  · exact absurd z (by decide)
  · exact absurd z.1 (by decide))
theorem zsc_q {bf c : Int32} {X : List Int32} (hc : c ≠ 39) : zscL (c :: X) bf true = zscL X c true := by
  have e1 := zqd_n hc true
  rw [zsc_no (fun q => by rw [e1] at q; exact absurd q.2 (by decide)), e1]
theorem zat_ltN {i : Nat} (h : zat T i ≠ -1) : i < T.length := by
  rcases Nat.lt_or_ge i T.length with q | q
  · exact q
  · exact absurd (zat_endN q) h
theorem zasc39 : zasc 39 := ⟨39, by decide, rfl⟩
/-- the rest of a string -/
theorem zsc_str (hT : ∀ x ∈ T, zb x = x) : ∀ (m i n : Nat) (bf : Int32) (X : List Int32), (zstr T m i n).1 = 101 → i < (zstr T m i n).2 ∧ zscL ((T.drop i).take ((zstr T m i n).2 - i) ++ X) bf true = zscL X 39 false := by
  intro m
  induction m using Nat.strongRecOn with
  | _ m ih =>
    intro i n bf X hk
    cases m with
    | zero => exact absurd hk (by show ¬ 103 = 101; decide)
    | succ m =>
      by_cases h1 : zat T i = 39
      · have hi : i < T.length := zat_ltN (by rw [h1]; decide)
        have g1 : T.getD i 0 = 39 := by rw [zasc_raw hT hi (by rw [h1]; exact zasc39), h1]
        by_cases h2 : zat T (i + 1) = 39
        · have hi2 : i + 1 < T.length := zat_ltN (by rw [h2]; decide)
          have g2 : T.getD (i + 1) 0 = 39 := by rw [zasc_raw hT hi2 (by rw [h2]; exact zasc39), h2]
          cases m with
          | zero =>
            exfalso
            have : (zstr T (0 + 1) i n).1 = 103 := by simp only [zstr]; rw [if_pos h1, if_pos h2]
            rw [this] at hk
            exact absurd hk (by decide)
          | succ m =>
            rw [zstr_2 h1 h2] at hk ⊢
            obtain ⟨k1, k2⟩ := ih m (by omega) (i + 2) (n + 1) 39 X hk
            refine ⟨by omega, ?_⟩
            rw [drop_cons (x := 0) hi, drop_cons (x := 0) hi2, g1, g2]
            rw [show (zstr T m (i + 2) (n + 1)).2 - i = ((zstr T m (i + 2) (n + 1)).2 - (i + 2)) + 1 + 1 by omega, List.take_succ_cons, List.take_succ_cons, List.cons_append, List.cons_append, zsc_39, zsc_39]
            exact k2
        · rw [zstr_1 h1 h2]
          refine ⟨by show i < i + 1; omega, ?_⟩
          show zscL ((T.drop i).take (i + 1 - i) ++ X) bf true = _
          rw [show i + 1 - i = 0 + 1 by omega, drop_cons (x := 0) hi, List.take_succ_cons, g1, List.take_zero, List.cons_append, zsc_39]
          rfl
      · by_cases h2 : zat T i < 32 ∨ 126 < zat T i
        · rw [zstr_3 h1 h2] at hk
          exact absurd hk (by show ¬ 103 = 101; decide)
        · rw [zstr_4 h1 h2] at hk ⊢
          have hi : i < T.length := zat_ltN (fun q => h2 (Or.inl (by rw [q]; decide)))
          have g1 : T.getD i 0 = zat T i := zasc_raw hT hi (zasc_at hi (Or.inr h2))
          obtain ⟨k1, k2⟩ := ih m (by omega) (i + 1) (n + 1) (zat T i) X hk
          refine ⟨by omega, ?_⟩
          rw [drop_cons (x := 0) hi, g1, show (zstr T m (i + 1) (n + 1)).2 - i = ((zstr T m (i + 1) (n + 1)).2 - (i + 1)) + 1 by omega, List.take_succ_cons, List.cons_append, zsc_q h1]
          exact k2
end LNK
