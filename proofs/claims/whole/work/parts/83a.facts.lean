/-! WHAT IS KNOWN OF THE TOKENS OF A TEXT. -/
section ZFA
variable {t : List Int32}
/-- tokens from the place j on -/
def zwf (t : List Int32) : Nat → List (Nat × Nat × Nat) → Prop
  | _, [] => False
  | j, (k, f, z) :: r => j ≤ f ∧ f ≤ t.length ∧ ztok t f = (k, z) ∧ (if k = 102 ∨ k = 103 then r = [] else zwf t z r)
theorem zwf_toks : ∀ (m j : Nat), t.length - j < m → j ≤ t.length → zwf t j (ztoks t m j) := by
  intro m
  induction m with
  | zero => intro j hm; omega
  | succ m ih =>
    intro j hm hj
    have hsk := zskip_le (t := t) (t.length - j) 0 j
    simp only [ztoks]
    generalize zskip t (t.length - j) 0 j = i at hsk ⊢
    obtain ⟨tk1, tk2, tk3, tk4⟩ := ztok_le (t := t) (i := i) (by omega)
    refine ⟨by omega, by omega, rfl, ?_⟩
    by_cases hend : (ztok t i).1 = 102 ∨ (ztok t i).1 = 103
    · rw [if_pos hend, if_pos hend]
    · rw [if_neg hend, if_neg hend]
      have := tk4 (fun q => hend (Or.inl q)) (fun q => hend (Or.inr q))
      exact ih _ (by omega) tk3
/-- one by one -/
theorem zwf_at : ∀ (l : List (Nat × Nat × Nat)) (j i : Nat), zwf t j l → i < l.length → j ≤ (l.getD i (102, 0, 0)).2.1 ∧ (l.getD i (102, 0, 0)).2.1 ≤ t.length ∧ ztok t (l.getD i (102, 0, 0)).2.1 = ((l.getD i (102, 0, 0)).1, (l.getD i (102, 0, 0)).2.2) ∧ (i + 1 = l.length → (l.getD i (102, 0, 0)).1 = 102 ∨ (l.getD i (102, 0, 0)).1 = 103) ∧ (i + 1 < l.length → ¬ ((l.getD i (102, 0, 0)).1 = 102 ∨ (l.getD i (102, 0, 0)).1 = 103) ∧ (l.getD i (102, 0, 0)).2.2 ≤ (l.getD (i + 1) (102, 0, 0)).2.1) := by
  intro l
  induction l with
  | nil => intro j i h; cases h
  | cons a r ih =>
    obtain ⟨k, f, z⟩ := a
    intro j i h hi
    obtain ⟨w1, w2, w3, w4⟩ := h
    cases i with
    | zero =>
      refine ⟨w1, w2, w3, fun q => ?_, fun q => ?_⟩
      · show k = 102 ∨ k = 103
        by_cases hend : k = 102 ∨ k = 103
        · exact hend
        · rw [if_neg hend] at w4
          have : r = [] := List.length_eq_zero_iff.mp (by simp only [List.length_cons] at q; omega)
          rw [this] at w4
          cases w4
      · show ¬ (k = 102 ∨ k = 103) ∧ z ≤ (r.getD 0 (102, 0, 0)).2.1
        by_cases hend : k = 102 ∨ k = 103
        · rw [if_pos hend] at w4
          rw [w4] at q
          simp only [List.length_cons, List.length_nil] at q
          omega
        · rw [if_neg hend] at w4
          refine ⟨hend, (ih z 0 w4 ?_).1⟩
          simp only [List.length_cons] at q
          omega
    | succ i =>
      by_cases hend : k = 102 ∨ k = 103
      · rw [if_pos hend] at w4
        rw [w4] at hi
        simp only [List.length_cons, List.length_nil] at hi
        omega
      · rw [if_neg hend] at w4
        simp only [List.length_cons] at hi
        obtain ⟨a1, a2, a3, a4, a5⟩ := ih z i w4 (by omega)
        have hz : f ≤ z := by
          have := (ztok_le (t := t) w2).2.1
          rw [w3] at this
          exact this
        refine ⟨?_, a2, a3, fun q => a4 ?_, fun q => a5 ?_⟩
        · exact Nat.le_trans (Nat.le_trans w1 hz) a1
        · simp only [List.length_cons] at q; omega
        · simp only [List.length_cons] at q; omega
/-- the tokens and the text -/
def zen (t : List Int32) : zE := (ztoks t (t.length + 1) 0, t)
theorem zen_wf : zwf t 0 (zen t).1 := zwf_toks _ 0 (by omega) (Nat.zero_le _)
theorem zen_pos : 0 < (zen t).1.length := by
  have h := zen_wf (t := t)
  cases h0 : (zen t).1 with
  | nil => rw [h0] at h; cases h
  | cons a r => simp
theorem zen_lt (i : Nat) : ztk (zen t) i < 104 := by
  by_cases hi : i < (zen t).1.length
  · obtain ⟨-, a2, a3, -⟩ := zwf_at _ 0 i zen_wf hi
    have := (ztok_le (t := t) a2).1
    rw [a3] at this
    exact this
  · rw [(ztk_out (e := zen t) (by omega)).1]; decide
theorem zen_ft (i : Nat) : zfr (zen t) i ≤ zto (zen t) i ∧ zto (zen t) i ≤ (zen t).2.length := by
  by_cases hi : i < (zen t).1.length
  · obtain ⟨-, a2, a3, -⟩ := zwf_at _ 0 i zen_wf hi
    obtain ⟨-, b2, b3, -⟩ := ztok_le (t := t) a2
    rw [a3] at b2 b3
    exact ⟨b2, b3⟩
  · obtain ⟨-, a, b⟩ := ztk_out (e := zen t) (i := i) (by omega)
    rw [a, b]; exact ⟨Nat.le_refl _, Nat.zero_le _⟩
/-- a token that isn't the last lies before the next one and takes room -/
theorem zen_next {i : Nat} (h : ¬ (ztk (zen t) i = 102 ∨ ztk (zen t) i = 103)) : i + 1 < (zen t).1.length ∧ zfr (zen t) i < zto (zen t) i ∧ zto (zen t) i ≤ zfr (zen t) (i + 1) := by
  by_cases hi : i < (zen t).1.length
  · obtain ⟨a1, a2, a3, a4, a5⟩ := zwf_at _ 0 i zen_wf hi
    have h1 : i + 1 < (zen t).1.length := by
      rcases Nat.lt_or_ge (i + 1) (zen t).1.length with q | q
      · exact q
      · exact absurd (a4 (by omega)) h
    refine ⟨h1, ?_, (a5 h1).2⟩
    have b4 := (ztok_le (t := t) a2).2.2.2
    rw [a3] at b4
    exact b4 (fun q => h (Or.inl q)) (fun q => h (Or.inr q))
  · exact absurd (Or.inl (ztk_out (e := zen t) (by omega)).1) h
theorem zen_len : (zen t).1.length ≤ t.length + 1 := by
  have : ∀ m j, (ztoks t m j).length ≤ m := by
    intro m
    induction m with
    | zero => intro j; exact Nat.le_refl _
    | succ m ih =>
      intro j
      simp only [ztoks, List.length_cons]
      split
      · simp
      · exact Nat.succ_le_succ (ih _)
  exact this _ 0
end ZFA
