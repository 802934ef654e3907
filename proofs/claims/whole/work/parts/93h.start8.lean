/-! THE LAW'S START: class and model before the first step; the law's whole run. -/
section LSI
variable {L : Nat} {xs : Nat → Int32} {g : Nat → Value}
theorem s_qst : qst (s_h0 g) [] [] 0 0 3 256 5 256 7 8 9 64 := by
  refine ⟨.int 0, .int 0, .retAddr 102, .int 0, .int 0, [], fun _ => 0, fun _ => 0, ?_, ?_, ?_, rfl, rfl, rfl, rfl, by decide, (fun x hx => by cases hx), (fun x hx => by cases hx)⟩
  · exact ⟨fun _ => 0, rfl, rfl, Nat.zero_le _, ⟨0, by decide, rfl⟩, fun j hj => absurd hj (Nat.not_lt_zero _)⟩
  · exact ⟨fun _ => 0, rfl, rfl, Nat.zero_le _, ⟨0, by decide, rfl⟩, fun j hj => absurd hj (Nat.not_lt_zero _)⟩
  · exact ⟨fun _ => .null, fun _ => 0, fun _ => 0, rfl, rfl, rfl, rfl, by decide, Nat.zero_le _, ⟨0, by decide, rfl⟩, fun j hj => absurd hj (Nat.not_lt_zero _)⟩
theorem s_mby : mby (fun _ => 0) [] := ⟨Nat.zero_le _, fun j hj => absurd hj (Nat.not_lt_zero _), fun x hx => by cases hx⟩
theorem s_mst (hg : ∀ i, i < 82 → g i = .retAddr (qr_en.getD i (0, 0)).1) : mst (s_h0 g) [] [] 0 0 [] [] := by
  refine ⟨0, .int 0, .int 0, .int 0, .int 0, .int 0, .int 0, .int 0, .int 0, fun _ => 0, fun _ => 0, fun _ => 0, fun _ => 0, fun _ => 0, fun _ => 0, fun _ => 0, rfl, ⟨g, rfl, hg⟩, rfl, s_mby, rfl, s_mby, ⟨_, rfl⟩, ⟨_, rfl⟩, ⟨_, rfl⟩, rfl, rfl, rfl, rfl, rfl, fun h => (h rfl).elim, ?_, rfl, Nat.zero_le _⟩
  intro k a e
  rw [List.getElem?_nil] at e
  cases e
theorem s_I (hg : ∀ i, i < 82 → g i = .retAddr (qr_en.getD i (0, 0)).1) : qlI (s_h0 g) 6400 700000 := by
  refine ⟨[], [], 0, 0, [], [], ⟨3, 256, 5, 256, 7, 8, 9, 64, 13, 4, fun _ => 0, s_qst, s_mst hg, ⟨rfl, by decide, by decide, ⟨_, rfl⟩⟩, ?_, ?_, rfl, ?_, ?_⟩, fun h => (h rfl).elim⟩
  · decide
  · unfold qaw; decide
  · show 64 * 27 ≤ 6400 + 4 * 256 + 4 * 256 + 3 * 64 + 4 * 2 ^ 4
    decide
  · show 657843 ≤ 700000 + 2 * 256 + 2 * 256 + 6 * 64 + 2 * 2 ^ 4
    decide
/-- the law answers 1, and there is room -/
theorem s_pure (hL : L ≤ 3072) : ∃ (F n : Nat) (h : ai_H), ai_go (qr_G L xs) (ai_run qr_P (qr_G L xs) F 2000) qm_law n 0 (some (.retAddr 3002) :: List.replicate 6 none) [] ([], 0, 0) = some (.inl (some (.int 1)), h) ∧ h.2.1 ≤ 601024 ∧ h.2.2 ≤ 7293034 := by
  obtain ⟨g, hg, hr⟩ := s_law (L := L) (xs := xs)
  obtain ⟨h', u, hu, hI, hq⟩ := l_loop (xs := xs) hL (L + 1) 0 (s_h0 g) 6400 700000 none none (by omega) (by omega) (s_I hg)
  obtain ⟨F0, n0, hF⟩ := hr _ hq
  obtain ⟨B, Q, mx, kd, J, T, hj, _⟩ := hI
  exact ⟨F0, n0, h', hF F0 n0 (Nat.le_refl _) (Nat.le_refl _), qlj_all hj (by omega) (by omega)⟩
end LSI
