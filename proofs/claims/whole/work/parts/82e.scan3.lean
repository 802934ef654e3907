/-! A TEXT IS SCANNED. (Printed by wip/whole/pp.py from wip/whole/src.) -/
section QSN
variable {L : Nat} {xs : Nat → Int32} {d : Nat} {h h' : ai_H} {r b len : Nat} {t : List Int32} {so fr to n : Nat} {rc : Value} {l : List (Nat × Nat × Nat)}
theorem q_lt104 {k f z : Nat} (hb : ∀ i, i < l.length → (l.getD i (102, 0, 0)).1 < 104) (hk : k < 104) : ∀ i, i < (l ++ [(k, f, z)]).length → ((l ++ [(k, f, z)]).getD i (102, 0, 0)).1 < 104 := by
  intro i hi
  rw [List.length_append] at hi
  have hi : i < l.length + 1 := hi
  by_cases he : i = l.length
  · rw [he, getD_app2]; exact hk
  · rw [getD_app1 (by omega)]; exact hb i (by omega)
/-- Tokens.keep -/
theorem q_keep {k f z : Nat} (hk : k < 104) (hq : qta h so fr to n (.int (nI z)) l) (hl : l.length < 131072) (hb : ∀ i, i < l.length → (l.getD i (102, 0, 0)).1 < 104) : ∃ h' so' fr' to' n', qe L xs (d + 4) 29 [.ref 6, .retAddr k, .int (nI f)] h (.inl none, h') ∧ qta h' so' fr' to' n' (.int (nI z)) (l ++ [(k, f, z)]) ∧ qto h so fr to n h' so' fr' to' n' := by
  obtain ⟨g, f1, f2, c1, c2, c3, c4, c5, c6, ⟨e, c7, c9⟩, c8⟩ := id hq
  have hn : n ≤ 131072 := by
    have : 2 ^ e ≤ 2 ^ 11 := Nat.pow_le_pow_right (by decide) c7
    omega
  by_cases hlt : l.length < n
  · obtain ⟨h', g1, g2, g3⟩ := q_keep0 (L := L) (xs := xs) (d := d + 3) (f := f) hk hq hlt hn
    refine ⟨h', so, fr, to, n, ?_, g2, g3⟩
    refine qe_of (M := qm_29) rfl rfl ?_
    show qg L xs _ qm_29 0 [some (.ref 6), some (.retAddr k), some (.int (nI f))] [] h _
    refine qg_pls (n := 1) (k' := 1) (lo' := [some (.ref 6), some (.retAddr k), some (.int (nI f))]) (S' := [.ref 6]) (h' := h) rfl ?_
    refine qg_getf (v := .int (nI l.length)) rfl c1 rfl rfl rfl ?_
    refine qg_pls (n := 1) (k' := 3) (lo' := [some (.ref 6), some (.retAddr k), some (.int (nI f))]) (S' := [.ref 6, .int (nI l.length)]) (h' := h) rfl ?_
    refine qg_getf (v := .ref so) rfl c1 rfl rfl rfl ?_
    refine qg_alenq rfl c2 ?_
    refine qg_icmp true rfl (qc_ltT hlt (by omega)) rfl ?_
    refine g1 _ ?_
    exact qg_ret7 rfl
  · obtain ⟨h1, so1, fr1, to1, w1, w2, w3⟩ := q_widen (L := L) (xs := xs) (d := d) hq (by omega) (by omega) hb
    obtain ⟨h', g1, g2, g3⟩ := q_keep0 (L := L) (xs := xs) (d := d + 3) (f := f) hk w2 (by have := Nat.one_le_two_pow (n := e); omega) (by
      rcases Nat.lt_or_ge e 11 with q | q
      · have : 2 ^ (e + 1) ≤ 2 ^ 11 := Nat.pow_le_pow_right (by decide) (by omega)
        rw [Nat.pow_succ] at this
        omega
      · have : e = 11 := by omega
        subst this
        omega)
    refine ⟨h', so1, fr1, to1, n * 2, ?_, g2, qto_trans w3 g3⟩
    refine qe_of (M := qm_29) rfl rfl ?_
    show qg L xs _ qm_29 0 [some (.ref 6), some (.retAddr k), some (.int (nI f))] [] h _
    refine qg_pls (n := 1) (k' := 1) (lo' := [some (.ref 6), some (.retAddr k), some (.int (nI f))]) (S' := [.ref 6]) (h' := h) rfl ?_
    refine qg_getf (v := .int (nI l.length)) rfl c1 rfl rfl rfl ?_
    refine qg_pls (n := 1) (k' := 3) (lo' := [some (.ref 6), some (.retAddr k), some (.int (nI f))]) (S' := [.ref 6, .int (nI l.length)]) (h' := h) rfl ?_
    refine qg_getf (v := .ref so) rfl c1 rfl rfl rfl ?_
    refine qg_alenq rfl c2 ?_
    refine qg_icmp false rfl (qc_ltF (by omega) (by omega)) rfl ?_
    refine qg_pls (n := 1) (k' := 7) (lo' := [some (.ref 6), some (.retAddr k), some (.int (nI f))]) (S' := [.ref 6]) (h' := h) rfl ?_
    refine qg_getf (v := .ref so) rfl c1 rfl rfl rfl ?_
    refine qg_alenq rfl c2 ?_
    refine qg_pls (n := 1) (k' := 10) (lo' := [some (.ref 6), some (.retAddr k), some (.int (nI f))]) (S' := [.int 131072, .int (nI n)]) (h' := h) rfl ?_
    refine qg_icmp false rfl (qc_geF (b := 131072) (by omega) (by decide)) rfl ?_
    refine qg_pls (n := 1) (k' := 12) (lo' := [some (.ref 6), some (.retAddr k), some (.int (nI f))]) (S' := [.ref 6]) (h' := h) rfl ?_
    refine qg_call (v := none) (h' := h1) (as := [.ref 6]) rfl rfl rfl rfl rfl rfl rfl (ai_rcv1 rfl rfl c1) (w1) ?_
    show qg L xs _ qm_29 13 [some (.ref 6), some (.retAddr k), some (.int (nI f))] [] h1 _
    refine g1 _ ?_
    exact qg_ret7 rfl
theorem zskip_le : ∀ (n c i : Nat), i ≤ zskip t n c i ∧ zskip t n c i ≤ i + n := by
  intro n
  induction n with
  | zero => intro c i; exact ⟨Nat.le_refl _, Nat.le_refl _⟩
  | succ n ih =>
    intro c i
    have h0 := ih 0 (i + 1)
    have h1 := ih 1 (i + 1)
    simp only [zskip]
    repeat' split
    all_goals omega
theorem zstr_le : ∀ (m i n : Nat), ((zstr t m i n).1 = 103 ∨ (zstr t m i n).1 = 101) ∧ ((zstr t m i n).2 = 0 → (zstr t m i n).1 = 103) ∧ ((zstr t m i n).2 = 0 ∨ (i < (zstr t m i n).2 ∧ (zstr t m i n).2 ≤ i + m)) := by
  intro m
  induction m using Nat.strongRecOn with
  | _ m ih =>
    intro i n
    cases m with
    | zero => exact ⟨Or.inl rfl, fun _ => rfl, Or.inl rfl⟩
    | succ m =>
      by_cases hq : zat t i = 39
      · by_cases hq2 : zat t (i + 1) = 39
        · cases m with
          | zero =>
            have e0 : zstr t (0 + 1) i n = (103, 0) := by simp only [zstr]; rw [if_pos hq, if_pos hq2]
            rw [e0]
            exact ⟨Or.inl rfl, fun _ => rfl, Or.inl rfl⟩
          | succ m =>
            rw [zstr_2 hq hq2]
            obtain ⟨a1, a2, a3⟩ := ih m (by omega) (i + 2) (n + 1)
            exact ⟨a1, a2, by omega⟩
        · rw [zstr_1 hq hq2]
          refine ⟨?_, fun q => ?_, Or.inr ⟨?_, ?_⟩⟩
          · dsimp only; split
            · exact Or.inl rfl
            · exact Or.inr rfl
          · dsimp only at q; omega
          · dsimp only; omega
          · dsimp only; omega
      · by_cases hb : zat t i < 32 ∨ 126 < zat t i
        · rw [zstr_3 hq hb]
          exact ⟨Or.inl rfl, fun _ => rfl, Or.inl rfl⟩
        · rw [zstr_4 hq hb]
          obtain ⟨a1, a2, a3⟩ := ih m (by omega) (i + 1) (n + 1)
          exact ⟨a1, a2, by omega⟩
theorem zkey_lt (u : List Int32) : zkey u < 82 ∨ zkey u = 99 := by
  unfold zkey
  cases h : (List.range 82).find? (fun k => decide (zw k = u)) with
  | none => exact Or.inr rfl
  | some k => exact Or.inl (List.mem_range.mp (List.mem_of_find?_eq_some h))
theorem ztwo_cases (a c : Int32) : ztwo a c = 103 ∨ (ztwo a c < 99 ∧ (c = 124 ∨ c = 62 ∨ c = 61)) := by
  unfold ztwo
  repeat' split
  · rename_i q; exact Or.inr ⟨by decide, Or.inl q.2⟩
  · rename_i q; exact Or.inr ⟨by decide, Or.inr (Or.inl q.2)⟩
  · rename_i q; exact Or.inr ⟨by decide, Or.inr (Or.inr q.2)⟩
  · rename_i q; exact Or.inr ⟨by decide, Or.inr (Or.inr q.2)⟩
  · exact Or.inl rfl
theorem zone_lt (a : Int32) : zone a = 103 ∨ zone a < 99 := by
  unfold zone
  repeat' split
  all_goals first | exact Or.inl rfl | exact Or.inr (by decide)
/-- a token lies in the text -/
theorem ztok_le {i : Nat} (hi : i ≤ t.length) : (ztok t i).1 < 104 ∧ i ≤ (ztok t i).2 ∧ (ztok t i).2 ≤ t.length ∧ ((ztok t i).1 ≠ 102 → (ztok t i).1 ≠ 103 → i < (ztok t i).2) := by
  unfold ztok
  by_cases h1 : zat t i = -1
  · rw [if_pos h1]; exact ⟨(by show (102 : Nat) < 104; decide), Nat.le_refl _, hi, fun q => absurd rfl q⟩
  rw [if_neg h1]
  have hlt : i < t.length := by
    rcases zat_nI t i with ⟨q, -⟩ | ⟨q, -⟩
    · exact absurd q h1
    · exact q
  obtain ⟨m, hm⟩ : ∃ m, t.length - i = m + 1 := ⟨t.length - i - 1, by omega⟩
  by_cases h2 : zdig (zat t i)
  · rw [if_pos h2]
    have e1 : zrun t zdig (t.length - i) i = zrun t zdig m (i + 1) := by rw [hm]; simp only [zrun]; rw [if_pos h2]
    have := zrun_le (t := t) (p := zdig) m (i + 1)
    rw [e1]
    refine ⟨?_, by dsimp only; omega, by dsimp only; omega, fun _ _ => by dsimp only; omega⟩
    dsimp only; split <;> decide
  rw [if_neg h2]
  by_cases h3 : zofw (zat t i)
  · rw [if_pos h3]
    have e1 : zrun t zofw (t.length - i) i = zrun t zofw m (i + 1) := by rw [hm]; simp only [zrun]; rw [if_pos h3]
    have := zrun_le (t := t) (p := zofw) m (i + 1)
    rw [e1]
    refine ⟨?_, by dsimp only; omega, by dsimp only; omega, fun _ _ => by dsimp only; omega⟩
    dsimp only; split
    · decide
    · rcases zkey_lt (zup t i (zrun t zofw m (i + 1))) with q | q <;> omega
  rw [if_neg h3]
  by_cases h4 : zat t i = 39
  · rw [if_pos h4]
    obtain ⟨a1, a2, a3⟩ := zstr_le (t := t) (t.length - (i + 1)) (i + 1) 0
    dsimp only
    refine ⟨by omega, ?_, ?_, fun q1 q2 => ?_⟩
    · split <;> omega
    · split <;> omega
    · split
      · rename_i q; exact absurd (a2 q) q2
      · omega
  rw [if_neg h4]
  rcases ztwo_cases (zat t i) (zat t (i + 1)) with q | ⟨q1, q2⟩
  · rw [if_pos q]
    dsimp only
    refine ⟨?_, by omega, by omega, fun _ _ => by omega⟩
    rcases zone_lt (zat t i) with q | q <;> omega
  · rw [if_neg (by omega)]
    have h5 : i + 1 < t.length := by
      rcases zat_nI t (i + 1) with ⟨q, -⟩ | ⟨q, -⟩
      · rw [q] at q2; exact absurd q2 (by decide)
      · exact q
    dsimp only
    exact ⟨by omega, by omega, by omega, fun _ _ => by omega⟩
/-- the row of the text stays -/
theorem qto_row {so' fr' to' n' : Nat} (hr : qrow h r b len t) (hq : qta h so fr to n rc l) (ho : qto h so fr to n h' so' fr' to' n') : qrow h' r b len t := by
  obtain ⟨g, f1, f2, c1, c2, c3, c4, -⟩ := hq
  obtain ⟨f, r1, r2, r3⟩ := hr
  refine ⟨f, ?_, ?_, r3⟩
  · rw [ho.2.1 r (q_ne r1 c1 (by intro e; cases e)) (q_ne r1 c2 (by intro e; cases e)) (q_ne r1 c3 (by intro e; cases e)) (q_ne r1 c4 (by intro e; cases e)) (q_lt r1)]; exact r1
  · rw [ho.2.1 b (q_ne r2 c1 (by intro e; cases e)) (q_ne r2 c2 (by intro e; cases e)) (q_ne r2 c3 (by intro e; cases e)) (q_ne r2 c4 (by intro e; cases e)) (q_lt r2)]; exact r2
theorem qta_rc {rc' : Value} (hq : qta h so fr to n rc l) : qta (h.1.set 6 (ai_obj 4 [.ref so, .ref fr, .ref to, .int (nI l.length), rc']), h.2) so fr to n rc' l ∧ qto h so fr to n (h.1.set 6 (ai_obj 4 [.ref so, .ref fr, .ref to, .int (nI l.length), rc']), h.2) so fr to n := by
  obtain ⟨g, f1, f2, c1, c2, c3, c4, c5, c6, c7, c8⟩ := hq
  refine ⟨⟨g, f1, f2, q_set c1, q_stay c2 (q_ne c1 c2 (by intro e; cases e)), q_stay c3 (q_ne c1 c3 (by intro e; cases e)), q_stay c4 (q_ne c1 c4 (by intro e; cases e)), c5, c6, c7, c8⟩, by simp, fun i i1 i2 i3 i4 i5 => ?_, Or.inl rfl, Or.inl rfl, Or.inl rfl, Nat.le_refl _, Nat.le_refl _, Nat.le_refl _⟩
  show (h.1.set 6 _)[i]? = _
  rw [List.getElem?_set_ne (fun e => i1 e.symm)]
/-- Tokens.scan -/
theorem q_scanl (hl : t.length ≤ 65536) : ∀ (m j ix : Nat) (l : List (Nat × Nat × Nat)) (h : ai_H) (so fr to n : Nat) (x4 x5 : Option Value), t.length - j < m → j ≤ t.length → l.length + m ≤ 131072 → ix + m ≤ 131072 → qrow h r b len t → qta h so fr to n (.int (nI j)) l → (∀ i, i < l.length → (l.getD i (102, 0, 0)).1 < 104) → ∃ h' so' fr' to' n' rc', qg L xs (d + 8) qm_7 10 [some (.ref 6), some (.ref r), some (.int 1), some (.int (nI ix)), x4, x5] [] h (.inl none, h') ∧ qta h' so' fr' to' n' rc' (l ++ ztoks t m j) ∧ qto h so fr to n h' so' fr' to' n' := by
  intro m
  induction m with
  | zero => intro j ix l h so fr to n x4 x5 hm; omega
  | succ m ih =>
    intro j ix l h so fr to n x4 x5 hm hj hlm hix hr hq hb
    have hsk := zskip_le (t := t) (t.length - j) 0 j
    have hbl := q_blanks (L := L) (xs := xs) (d := d + 6) hr (by omega) hj
    simp only [ztoks]
    generalize zskip t (t.length - j) 0 j = i at hsk hbl ⊢
    obtain ⟨tk1, tk2, tk3, tk4⟩ := ztok_le (t := t) (i := i) (by omega)
    obtain ⟨g, f1, f2, c1, c2, c3, c4, c5, c6, c7, c8⟩ := id hq
    obtain ⟨fb, r1, r2, -⟩ := id hr
    have hsf := q_sortFrom (L := L) (xs := xs) (d := d) hr (by omega) (show i ≤ t.length by omega) c1 ⟨q_ne r1 c1 (by intro e; cases e), q_ne r2 c1 (by intro e; cases e)⟩
    obtain ⟨hq1, ho1⟩ := qta_rc (rc' := .int (nI (ztok t i).2)) hq
    obtain ⟨h2, so2, fr2, to2, n2, k1, hq2, ho2⟩ := q_keep (L := L) (xs := xs) (d := d + 4) (k := (ztok t i).1) (f := i) tk1 hq1 (by omega) hb
    have ho := qto_trans ho1 ho2
    have hr2 := qto_row hr hq ho
    have road : ∀ o, qg L xs (d + 8) qm_7 29 [some (.ref 6), some (.ref r), some (.int 1), some (.int (nI ix)), some (.int (nI i)), some (.retAddr (ztok t i).1)] [] h2 o → qg L xs (d + 8) qm_7 10 [some (.ref 6), some (.ref r), some (.int 1), some (.int (nI ix)), x4, x5] [] h o := by
      intro o hg
      refine qg_pls (n := 2) (k' := 12) (lo' := [some (.ref 6), some (.ref r), some (.int 1), some (.int (nI ix)), x4, x5]) (S' := [.int 1000000, .int (nI ix)]) (h' := h) rfl ?_
      refine qg_icmp false rfl (qc_geF (b := 1000000) (by omega) (by decide)) rfl ?_
      refine qg_pls (n := 1) (k' := 14) (lo' := [some (.ref 6), some (.ref r), some (.int 1), some (.int (nI ix)), x4, x5]) (S' := [.int 1]) (h' := h) rfl ?_
      refine qg_if false rfl (rfl) rfl ?_
      refine qg_pls (n := 2) (k' := 17) (lo' := [some (.ref 6), some (.ref r), some (.int 1), some (.int (nI ix)), x4, x5]) (S' := [.ref 6, .ref r]) (h' := h) rfl ?_
      refine qg_getf (v := .int (nI j)) rfl c1 rfl rfl rfl ?_
      refine qg_call (v := some (.int (nI i))) (h' := h) (as := [.ref r, .int (nI j)]) rfl rfl rfl rfl rfl rfl rfl rfl (hbl) ?_
      show qg L xs _ qm_7 19 [some (.ref 6), some (.ref r), some (.int 1), some (.int (nI ix)), x4, x5] [.int (nI i)] h _
      refine qg_pls (n := 4) (k' := 23) (lo' := [some (.ref 6), some (.ref r), some (.int 1), some (.int (nI ix)), some (.int (nI i)), x5]) (S' := [.int (nI i), .ref r, .ref 6]) (h' := h) rfl ?_
      refine qg_call (v := some (.retAddr (ztok t i).1)) (h' := (h.1.set 6 (ai_obj 4 [.ref so, .ref fr, .ref to, .int (nI l.length), .int (nI (ztok t i).2)]), h.2)) (as := [.ref 6, .ref r, .int (nI i)]) rfl rfl rfl rfl rfl rfl rfl (ai_rcv1 rfl rfl c1) (hsf) ?_
      show qg L xs _ qm_7 24 [some (.ref 6), some (.ref r), some (.int 1), some (.int (nI ix)), some (.int (nI i)), x5] [.retAddr (ztok t i).1] (h.1.set 6 (ai_obj 4 [.ref so, .ref fr, .ref to, .int (nI l.length), .int (nI (ztok t i).2)]), h.2) _
      refine qg_pls (n := 4) (k' := 28) (lo' := [some (.ref 6), some (.ref r), some (.int 1), some (.int (nI ix)), some (.int (nI i)), some (.retAddr (ztok t i).1)]) (S' := [.int (nI i), .retAddr (ztok t i).1, .ref 6]) (h' := (h.1.set 6 (ai_obj 4 [.ref so, .ref fr, .ref to, .int (nI l.length), .int (nI (ztok t i).2)]), h.2)) rfl ?_
      refine qg_call (v := none) (h' := h2) (as := [.ref 6, .retAddr (ztok t i).1, .int (nI i)]) rfl rfl rfl rfl rfl rfl rfl (ai_rcv1 rfl rfl (q_set c1)) (k1) ?_
      show qg L xs _ qm_7 29 [some (.ref 6), some (.ref r), some (.int 1), some (.int (nI ix)), some (.int (nI i)), some (.retAddr (ztok t i).1)] [] h2 _
      exact hg
    by_cases hend : (ztok t i).1 = 102 ∨ (ztok t i).1 = 103
    · rw [if_pos hend]
      have last : ∀ x, qg L xs (d + 8) qm_7 37 [some (.ref 6), some (.ref r), some (.int 1), some (.int (nI ix)), some (.int (nI i)), some x] [] h2 (.inl none, h2) := by
        intro x
        refine qg_pls (n := 4) (k' := 10) (lo' := [some (.ref 6), some (.ref r), some (.int 0), some (.int ((nI ix) + 1)), some (.int (nI i)), some (x)]) (S' := []) (h' := h2) rfl ?_
        rw [nI_1]
        refine qg_pls (n := 2) (k' := 12) (lo' := [some (.ref 6), some (.ref r), some (.int 0), some (.int (nI (ix + 1))), some (.int (nI i)), some (x)]) (S' := [.int 1000000, .int (nI (ix + 1))]) (h' := h2) rfl ?_
        refine qg_icmp false rfl (qc_geF (b := 1000000) (by omega) (by decide)) rfl ?_
        refine qg_pls (n := 1) (k' := 14) (lo' := [some (.ref 6), some (.ref r), some (.int 0), some (.int (nI (ix + 1))), some (.int (nI i)), some (x)]) (S' := [.int 0]) (h' := h2) rfl ?_
        refine qg_if true rfl (rfl) rfl ?_
        exact qg_ret7 rfl
      refine ⟨h2, so2, fr2, to2, n2, _, road _ ?_, hq2, ho⟩
      refine qg_pls (n := 2) (k' := 31) (lo' := [some (.ref 6), some (.ref r), some (.int 1), some (.int (nI ix)), some (.int (nI i)), some (.retAddr (ztok t i).1)]) (S' := [.retAddr 102, .retAddr (ztok t i).1]) (h' := h2) rfl ?_
      by_cases h102 : (ztok t i).1 = 102
      · skip
        refine qg_acmp true rfl (qzk tk1 (by decide)) (qa_eqT h102) rfl ?_
        exact last _
      · skip
        refine qg_acmp false rfl (qzk tk1 (by decide)) (qa_eqF h102) rfl ?_
        refine qg_pls (n := 2) (k' := 34) (lo' := [some (.ref 6), some (.ref r), some (.int 1), some (.int (nI ix)), some (.int (nI i)), some (.retAddr (ztok t i).1)]) (S' := [.retAddr 103, .retAddr (ztok t i).1]) (h' := h2) rfl ?_
        refine qg_acmp true rfl (qzk tk1 (by decide)) (qa_eqT (hend.resolve_left h102)) rfl ?_
        exact last _
    · rw [if_neg hend]
      have h102 : ¬ (ztok t i).1 = 102 := fun q => hend (Or.inl q)
      have h103 : ¬ (ztok t i).1 = 103 := fun q => hend (Or.inr q)
      have hgt := tk4 h102 h103
      obtain ⟨h3, so3, fr3, to3, n3, rc3, k3, hq3, ho3⟩ := ih (ztok t i).2 (ix + 1) _ h2 so2 fr2 to2 n2 (some (.int (nI i))) (some (.retAddr (ztok t i).1)) (by omega) tk3 (by rw [List.length_append]; simp only [List.length_cons, List.length_nil]; omega) (by omega) hr2 hq2 (q_lt104 hb tk1)
      rw [List.append_assoc] at hq3
      refine ⟨h3, so3, fr3, to3, n3, rc3, road _ ?_, hq3, qto_trans ho ho3⟩
      refine qg_pls (n := 2) (k' := 31) (lo' := [some (.ref 6), some (.ref r), some (.int 1), some (.int (nI ix)), some (.int (nI i)), some (.retAddr (ztok t i).1)]) (S' := [.retAddr 102, .retAddr (ztok t i).1]) (h' := h2) rfl ?_
      refine qg_acmp false rfl (qzk tk1 (by decide)) (qa_eqF h102) rfl ?_
      refine qg_pls (n := 2) (k' := 34) (lo' := [some (.ref 6), some (.ref r), some (.int 1), some (.int (nI ix)), some (.int (nI i)), some (.retAddr (ztok t i).1)]) (S' := [.retAddr 103, .retAddr (ztok t i).1]) (h' := h2) rfl ?_
      refine qg_acmp false rfl (qzk tk1 (by decide)) (qa_eqF h103) rfl ?_
      refine qg_pls (n := 5) (k' := 10) (lo' := [some (.ref 6), some (.ref r), some (.int 1), some (.int ((nI ix) + 1)), some (.int (nI i)), some (.retAddr (ztok t i).1)]) (S' := []) (h' := h2) rfl ?_
      rw [nI_1]
      exact k3
theorem q_scan (hl : t.length ≤ 65536) (hr : qrow h r b len t) (hq : qta h so fr to n rc l) : ∃ h' so' fr' to' n' rc', qe L xs (d + 9) 7 [.ref 6, .ref r] h (.inl none, h') ∧ qta h' so' fr' to' n' rc' (ztoks t (t.length + 1) 0) ∧ qto h so fr to n h' so' fr' to' n' := by
  obtain ⟨g, f1, f2, c1, c2, c3, c4, c5, c6, c7, c8⟩ := id hq
  have hq1 : qta (h.1.set 6 (ai_obj 4 [.ref so, .ref fr, .ref to, .int (nI 0), .int (nI 0)]), h.2) so fr to n (.int (nI 0)) [] := ⟨g, f1, f2, q_set c1, q_stay c2 (q_ne c1 c2 (by intro e; cases e)), q_stay c3 (q_ne c1 c3 (by intro e; cases e)), q_stay c4 (q_ne c1 c4 (by intro e; cases e)), c5, Nat.zero_le _, c7, fun i hi => by cases hi⟩
  have ho1 : qto h so fr to n (h.1.set 6 (ai_obj 4 [.ref so, .ref fr, .ref to, .int (nI 0), .int (nI 0)]), h.2) so fr to n := by
    refine ⟨by simp, fun i i1 i2 i3 i4 i5 => ?_, Or.inl rfl, Or.inl rfl, Or.inl rfl, Nat.le_refl _, Nat.le_refl _, Nat.le_refl _⟩
    show (h.1.set 6 _)[i]? = _
    rw [List.getElem?_set_ne (fun e => i1 e.symm)]
  have hr1 := qto_row hr hq ho1
  obtain ⟨h3, so3, fr3, to3, n3, rc3, k3, hq3, ho3⟩ := q_scanl (L := L) (xs := xs) (d := d) hl (t.length + 1) 0 0 [] _ so fr to n none none (by omega) (Nat.zero_le _) (by simp only [List.length_nil]; omega) (by omega) hr1 hq1 (fun i hi => by cases hi)
  refine ⟨h3, so3, fr3, to3, n3, rc3, ?_, hq3, qto_trans ho1 ho3⟩
  refine qe_of (M := qm_7) rfl rfl ?_
  show qg L xs _ qm_7 0 [some (.ref 6), some (.ref r), none, none, none, none] [] h _
  refine qg_pls (n := 4) (k' := 4) (lo' := [some (.ref 6), some (.ref r), some (.int 1), none, none, none]) (S' := [.int 0, .ref 6]) (h' := h) rfl ?_
  refine qg_putf rfl c1 rfl rfl (Nat.le_of_ble_eq_true rfl) rfl ?_
  refine qg_pls (n := 2) (k' := 7) (lo' := [some (.ref 6), some (.ref r), some (.int 1), none, none, none]) (S' := [.int 0, .ref 6]) (h' := (h.1.set 6 (ai_obj 4 [.ref so, .ref fr, .ref to, .int 0, rc]), h.2)) rfl ?_
  refine qg_putf rfl (q_set c1) rfl rfl (Nat.le_of_ble_eq_true rfl) rfl ?_
  refine qg_pls (n := 2) (k' := 10) (lo' := [some (.ref 6), some (.ref r), some (.int 1), some (.int 0), none, none]) (S' := []) (h' := ((h.1.set 6 (ai_obj 4 [.ref so, .ref fr, .ref to, .int 0, rc])).set 6 (ai_obj 4 [.ref so, .ref fr, .ref to, .int 0, .int 0]), h.2)) rfl ?_
  rw [List.set_set]
  exact k3
end QSN
