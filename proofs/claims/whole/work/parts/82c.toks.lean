/-! TOKENS, ONE BY ONE. (Printed by wip/whole/pp.py from wip/whole/src.) -/
section QTK
variable {L : Nat} {xs : Nat → Int32} {d : Nat} {h h' : ai_H} {r b len : Nat} {t : List Int32} {so fr to : Nat} {cn rc : Value}
theorem q_same {hl : List ai_C} {a : Nat} {x : ai_C} (ha : hl[a]? = some x) : hl.set a x = hl := by
  apply List.ext_getElem?
  intro i
  rw [List.getElem?_set]
  split
  · rename_i e
    subst e
    split
    · exact ha.symm
    · rename_i hn; exact absurd (q_lt ha) hn
  · rfl
theorem zrun_le {p : Int32 → Prop} [DecidablePred p] : ∀ (n i : Nat), i ≤ zrun t p n i ∧ zrun t p n i ≤ i + n := by
  intro n
  induction n with
  | zero => intro i; exact ⟨Nat.le_refl _, Nat.le_refl _⟩
  | succ n ih =>
    intro i
    simp only [zrun]
    split
    · have := ih (i + 1); omega
    · omega
theorem q_digl (hr : qrow h r b len t) (hl : t.length ≤ 1048576) {i : Nat} : ∀ (n j : Nat), t.length - j = n → j ≤ t.length → ∀ o, qg L xs (d + 6) qm_13 19 [some (.ref 6), some (.ref r), some (.int (nI i)), some (.int (nI (zrun t zdig n j))), some (.int (nI (zrun t zdig n j)))] [] h o → qg L xs (d + 6) qm_13 4 [some (.ref 6), some (.ref r), some (.int (nI i)), some (.int (nI j)), some (.int (nI j))] [] h o := by
  intro n
  induction n with
  | zero =>
    intro j hn hj o hg
    refine qg_pls (n := 2) (k' := 6) (lo' := [some (.ref 6), some (.ref r), some (.int (nI i)), some (.int (nI j)), some (.int (nI j))]) (S' := [.ref r, .int (nI j)]) (h' := h) rfl ?_
    refine qg_call (v := some (.int (nI t.length))) (h' := h) (as := [.ref r]) rfl rfl rfl rfl rfl rfl rfl (ai_rcv1 rfl rfl (qrow_obj hr)) (qe_up (by omega) (q_size (d := d) hr)) ?_
    show qg L xs _ qm_13 7 [some (.ref 6), some (.ref r), some (.int (nI i)), some (.int (nI j)), some (.int (nI j))] [.int (nI t.length), .int (nI j)] h _
    refine qg_icmp true rfl (qc_geT (by omega) (by omega)) rfl ?_
    exact hg
  | succ n ih =>
    intro j hn hj o hg
    refine qg_pls (n := 1) (k' := 5) (lo' := [some (.ref 6), some (.ref r), some (.int (nI i)), some (.int (nI j)), some (.int (nI j))]) (S' := [.int (nI j)]) (h' := h) rfl ?_
    refine qg_pls (n := 1) (k' := 6) (lo' := [some (.ref 6), some (.ref r), some (.int (nI i)), some (.int (nI j)), some (.int (nI j))]) (S' := [.ref r, .int (nI j)]) (h' := h) rfl ?_
    refine qg_call (v := some (.int (nI t.length))) (h' := h) (as := [.ref r]) rfl rfl rfl rfl rfl rfl rfl (ai_rcv1 rfl rfl (qrow_obj hr)) (qe_up (by omega) (q_size (d := d) hr)) ?_
    show qg L xs _ qm_13 7 [some (.ref 6), some (.ref r), some (.int (nI i)), some (.int (nI j)), some (.int (nI j))] [.int (nI t.length), .int (nI j)] h _
    refine qg_icmp false rfl (qc_geF (by omega) (by omega)) rfl ?_
    refine qg_pls (n := 2) (k' := 10) (lo' := [some (.ref 6), some (.ref r), some (.int (nI i)), some (.int (nI j)), some (.int (nI j))]) (S' := [.int (nI j), .ref r]) (h' := h) rfl ?_
    refine qg_call (v := some (.int (zat t j))) (h' := h) (as := [.ref r, .int (nI j)]) rfl rfl rfl rfl rfl rfl rfl (ai_rcv1 rfl rfl (qrow_obj hr)) (qe_up (by omega) (q_at (d := d) hr (by omega))) ?_
    show qg L xs _ qm_13 11 [some (.ref 6), some (.ref r), some (.int (nI i)), some (.int (nI j)), some (.int (nI j))] [.int (zat t j)] h _
    by_cases c1 : zdig (zat t j)
    · skip
      refine qg_call (v := some (.int 1)) (h' := h) (as := [.int (zat t j)]) rfl rfl rfl rfl rfl rfl rfl rfl (by have hh := qe_up (d' := d + 6) (by omega) (q_dig (L := L) (xs := xs) (d := d) (h := h) (c := (zat t j))); rw [if_pos c1] at hh; exact hh) ?_
      show qg L xs _ qm_13 12 [some (.ref 6), some (.ref r), some (.int (nI i)), some (.int (nI j)), some (.int (nI j))] [.int 1] h _
      refine qg_if false rfl (rfl) rfl ?_
      refine qg_pls (n := 6) (k' := 4) (lo' := [some (.ref 6), some (.ref r), some (.int (nI i)), some (.int ((nI j) + 1)), some (.int ((nI j) + 1))]) (S' := []) (h' := h) rfl ?_
      rw [show nI j + 1 = nI (j + 1) from nI_1 j]
      refine ih (j + 1) (by omega) (by omega) o ?_
      rw [show zrun t zdig (n + 1) j = zrun t zdig n (j + 1) from by simp only [zrun]; rw [if_pos c1]] at hg
      exact hg
    · skip
      refine qg_call (v := some (.int 0)) (h' := h) (as := [.int (zat t j)]) rfl rfl rfl rfl rfl rfl rfl rfl (by have hh := qe_up (d' := d + 6) (by omega) (q_dig (L := L) (xs := xs) (d := d) (h := h) (c := (zat t j))); rw [if_neg c1] at hh; exact hh) ?_
      show qg L xs _ qm_13 12 [some (.ref 6), some (.ref r), some (.int (nI i)), some (.int (nI j)), some (.int (nI j))] [.int 0] h _
      refine qg_if true rfl (rfl) rfl ?_
      rw [show zrun t zdig (n + 1) j = j from by simp only [zrun]; rw [if_neg c1]] at hg
      exact hg
theorem q_wrdl (hr : qrow h r b len t) (hl : t.length ≤ 1048576) {i : Nat} : ∀ (n j : Nat), t.length - j = n → j ≤ t.length → ∀ o, qg L xs (d + 6) qm_15 19 [some (.ref 6), some (.ref r), some (.int (nI i)), some (.int (nI (zrun t zofw n j))), some (.int (nI (zrun t zofw n j)))] [] h o → qg L xs (d + 6) qm_15 4 [some (.ref 6), some (.ref r), some (.int (nI i)), some (.int (nI j)), some (.int (nI j))] [] h o := by
  intro n
  induction n with
  | zero =>
    intro j hn hj o hg
    refine qg_pls (n := 2) (k' := 6) (lo' := [some (.ref 6), some (.ref r), some (.int (nI i)), some (.int (nI j)), some (.int (nI j))]) (S' := [.ref r, .int (nI j)]) (h' := h) rfl ?_
    refine qg_call (v := some (.int (nI t.length))) (h' := h) (as := [.ref r]) rfl rfl rfl rfl rfl rfl rfl (ai_rcv1 rfl rfl (qrow_obj hr)) (qe_up (by omega) (q_size (d := d) hr)) ?_
    show qg L xs _ qm_15 7 [some (.ref 6), some (.ref r), some (.int (nI i)), some (.int (nI j)), some (.int (nI j))] [.int (nI t.length), .int (nI j)] h _
    refine qg_icmp true rfl (qc_geT (by omega) (by omega)) rfl ?_
    exact hg
  | succ n ih =>
    intro j hn hj o hg
    refine qg_pls (n := 1) (k' := 5) (lo' := [some (.ref 6), some (.ref r), some (.int (nI i)), some (.int (nI j)), some (.int (nI j))]) (S' := [.int (nI j)]) (h' := h) rfl ?_
    refine qg_pls (n := 1) (k' := 6) (lo' := [some (.ref 6), some (.ref r), some (.int (nI i)), some (.int (nI j)), some (.int (nI j))]) (S' := [.ref r, .int (nI j)]) (h' := h) rfl ?_
    refine qg_call (v := some (.int (nI t.length))) (h' := h) (as := [.ref r]) rfl rfl rfl rfl rfl rfl rfl (ai_rcv1 rfl rfl (qrow_obj hr)) (qe_up (by omega) (q_size (d := d) hr)) ?_
    show qg L xs _ qm_15 7 [some (.ref 6), some (.ref r), some (.int (nI i)), some (.int (nI j)), some (.int (nI j))] [.int (nI t.length), .int (nI j)] h _
    refine qg_icmp false rfl (qc_geF (by omega) (by omega)) rfl ?_
    refine qg_pls (n := 2) (k' := 10) (lo' := [some (.ref 6), some (.ref r), some (.int (nI i)), some (.int (nI j)), some (.int (nI j))]) (S' := [.int (nI j), .ref r]) (h' := h) rfl ?_
    refine qg_call (v := some (.int (zat t j))) (h' := h) (as := [.ref r, .int (nI j)]) rfl rfl rfl rfl rfl rfl rfl (ai_rcv1 rfl rfl (qrow_obj hr)) (qe_up (by omega) (q_at (d := d) hr (by omega))) ?_
    show qg L xs _ qm_15 11 [some (.ref 6), some (.ref r), some (.int (nI i)), some (.int (nI j)), some (.int (nI j))] [.int (zat t j)] h _
    by_cases c2 : zofw (zat t j)
    · skip
      refine qg_call (v := some (.int 1)) (h' := h) (as := [.int (zat t j)]) rfl rfl rfl rfl rfl rfl rfl rfl (by have hh := qe_up (d' := d + 6) (by omega) (q_ofw (L := L) (xs := xs) (d := d) (h := h) (c := (zat t j))); rw [if_pos c2] at hh; exact hh) ?_
      show qg L xs _ qm_15 12 [some (.ref 6), some (.ref r), some (.int (nI i)), some (.int (nI j)), some (.int (nI j))] [.int 1] h _
      refine qg_if false rfl (rfl) rfl ?_
      refine qg_pls (n := 6) (k' := 4) (lo' := [some (.ref 6), some (.ref r), some (.int (nI i)), some (.int ((nI j) + 1)), some (.int ((nI j) + 1))]) (S' := []) (h' := h) rfl ?_
      rw [show nI j + 1 = nI (j + 1) from nI_1 j]
      refine ih (j + 1) (by omega) (by omega) o ?_
      rw [show zrun t zofw (n + 1) j = zrun t zofw n (j + 1) from by simp only [zrun]; rw [if_pos c2]] at hg
      exact hg
    · skip
      refine qg_call (v := some (.int 0)) (h' := h) (as := [.int (zat t j)]) rfl rfl rfl rfl rfl rfl rfl rfl (by have hh := qe_up (d' := d + 6) (by omega) (q_ofw (L := L) (xs := xs) (d := d) (h := h) (c := (zat t j))); rw [if_neg c2] at hh; exact hh) ?_
      show qg L xs _ qm_15 12 [some (.ref 6), some (.ref r), some (.int (nI i)), some (.int (nI j)), some (.int (nI j))] [.int 0] h _
      refine qg_if true rfl (rfl) rfl ?_
      rw [show zrun t zofw (n + 1) j = j from by simp only [zrun]; rw [if_neg c2]] at hg
      exact hg
/-- Tokens.digits -/
theorem q_digits (hr : qrow h r b len t) (hl : t.length ≤ 1048576) {i : Nat} (hi : i ≤ t.length) (hT : h.1[6]? = some (ai_obj 4 [.ref so, .ref fr, .ref to, cn, rc])) : qe L xs (d + 7) 13 [.ref 6, .ref r, .int (nI i)] h (.inl (some (.retAddr (if 18 < zrun t zdig (t.length - i) i - i then 103 else 100))), (h.1.set 6 (ai_obj 4 [.ref so, .ref fr, .ref to, cn, .int (nI (zrun t zdig (t.length - i) i))]), h.2)) := by
  have hz := zrun_le (t := t) (p := zdig) (t.length - i) i
  refine qe_of (M := qm_13) rfl rfl ?_
  show qg L xs _ qm_13 0 [some (.ref 6), some (.ref r), some (.int (nI i)), none, none] [] h _
  refine qg_pls (n := 4) (k' := 4) (lo' := [some (.ref 6), some (.ref r), some (.int (nI i)), some (.int (nI i)), some (.int (nI i))]) (S' := []) (h' := h) rfl ?_
  refine q_digl hr hl _ i rfl hi _ ?_
  generalize zrun t zdig (t.length - i) i = z at hz ⊢
  refine qg_pls (n := 2) (k' := 21) (lo' := [some (.ref 6), some (.ref r), some (.int (nI i)), some (.int (nI z)), some (.int (nI z))]) (S' := [.int (nI z), .ref 6]) (h' := h) rfl ?_
  refine qg_putf rfl hT rfl rfl (Nat.le_of_ble_eq_true rfl) rfl ?_
  refine qg_pls (n := 4) (k' := 26) (lo' := [some (.ref 6), some (.ref r), some (.int (nI i)), some (.int (nI z)), some (.int (nI z))]) (S' := [.int 18, .int ((nI z) - (nI i))]) (h' := (h.1.set 6 (ai_obj 4 [.ref so, .ref fr, .ref to, cn, .int (nI z)]), h.2)) rfl ?_
  rw [show nI z - nI i = nI (z - i) from nI_sub (by omega)]
  by_cases h1 : 18 < z - i
  · rw [if_pos h1]
    refine qg_icmp false rfl (qc_leF (b := 18) h1 (by omega)) rfl ?_
    refine qg_pls (n := 2) (k' := 30) (lo' := [some (.ref 6), some (.ref r), some (.int (nI i)), some (.int (nI z)), some (.int (nI z))]) (S' := [.retAddr 103]) (h' := (h.1.set 6 (ai_obj 4 [.ref so, .ref fr, .ref to, cn, .int (nI z)]), h.2)) rfl ?_
    exact qg_ret6 rfl rfl
  · rw [if_neg h1]
    refine qg_icmp true rfl (qc_leT (b := 18) (by omega) (by decide)) rfl ?_
    refine qg_pls (n := 1) (k' := 30) (lo' := [some (.ref 6), some (.ref r), some (.int (nI i)), some (.int (nI z)), some (.int (nI z))]) (S' := [.retAddr 100]) (h' := (h.1.set 6 (ai_obj 4 [.ref so, .ref fr, .ref to, cn, .int (nI z)]), h.2)) rfl ?_
    exact qg_ret6 rfl rfl
/-- Tokens.word -/
theorem q_wordT (hr : qrow h r b len t) (hl : t.length ≤ 1048576) {i : Nat} (hi : i ≤ t.length) (hT : h.1[6]? = some (ai_obj 4 [.ref so, .ref fr, .ref to, cn, rc])) (h6 : r ≠ 6 ∧ b ≠ 6) : qe L xs (d + 7) 15 [.ref 6, .ref r, .int (nI i)] h (.inl (some (.retAddr (if 30 < zrun t zofw (t.length - i) i - i then 103 else zkey (zup t i (zrun t zofw (t.length - i) i))))), (h.1.set 6 (ai_obj 4 [.ref so, .ref fr, .ref to, cn, .int (nI (zrun t zofw (t.length - i) i))]), h.2)) := by
  have hz := zrun_le (t := t) (p := zofw) (t.length - i) i
  refine qe_of (M := qm_15) rfl rfl ?_
  show qg L xs _ qm_15 0 [some (.ref 6), some (.ref r), some (.int (nI i)), none, none] [] h _
  refine qg_pls (n := 4) (k' := 4) (lo' := [some (.ref 6), some (.ref r), some (.int (nI i)), some (.int (nI i)), some (.int (nI i))]) (S' := []) (h' := h) rfl ?_
  refine q_wrdl hr hl _ i rfl hi _ ?_
  generalize zrun t zofw (t.length - i) i = z at hz ⊢
  refine qg_pls (n := 2) (k' := 21) (lo' := [some (.ref 6), some (.ref r), some (.int (nI i)), some (.int (nI z)), some (.int (nI z))]) (S' := [.int (nI z), .ref 6]) (h' := h) rfl ?_
  refine qg_putf rfl hT rfl rfl (Nat.le_of_ble_eq_true rfl) rfl ?_
  refine qg_pls (n := 4) (k' := 26) (lo' := [some (.ref 6), some (.ref r), some (.int (nI i)), some (.int (nI z)), some (.int (nI z))]) (S' := [.int 30, .int ((nI z) - (nI i))]) (h' := (h.1.set 6 (ai_obj 4 [.ref so, .ref fr, .ref to, cn, .int (nI z)]), h.2)) rfl ?_
  rw [show nI z - nI i = nI (z - i) from nI_sub (by omega)]
  by_cases h1 : 30 < z - i
  · rw [if_pos h1]
    refine qg_icmp false rfl (qc_leF (b := 30) h1 (by omega)) rfl ?_
    refine qg_pls (n := 2) (k' := 33) (lo' := [some (.ref 6), some (.ref r), some (.int (nI i)), some (.int (nI z)), some (.int (nI z))]) (S' := [.retAddr 103]) (h' := (h.1.set 6 (ai_obj 4 [.ref so, .ref fr, .ref to, cn, .int (nI z)]), h.2)) rfl ?_
    exact qg_ret6 rfl rfl
  · rw [if_neg h1]
    have hr2 : qrow (h.1.set 6 (ai_obj 4 [.ref so, .ref fr, .ref to, cn, .int (nI z)]), h.2) r b len t := by
      obtain ⟨f, r1, r2, r3⟩ := hr
      exact ⟨f, q_stay r1 (fun e => h6.1 e.symm), q_stay r2 (fun e => h6.2 e.symm), r3⟩
    refine qg_icmp true rfl (qc_leT (b := 30) (by omega) (by decide)) rfl ?_
    refine qg_pls (n := 3) (k' := 32) (lo' := [some (.ref 6), some (.ref r), some (.int (nI i)), some (.int (nI z)), some (.int (nI z))]) (S' := [.int (nI z), .int (nI i), .ref r]) (h' := (h.1.set 6 (ai_obj 4 [.ref so, .ref fr, .ref to, cn, .int (nI z)]), h.2)) rfl ?_
    refine qg_call (v := some (.retAddr (zkey (zup t i z)))) (h' := (h.1.set 6 (ai_obj 4 [.ref so, .ref fr, .ref to, cn, .int (nI z)]), h.2)) (as := [.ref r, .int (nI i), .int (nI z)]) rfl rfl rfl rfl rfl rfl rfl rfl (q_key (d := d) hr2 hl (by omega) (by omega) (by omega)) ?_
    show qg L xs _ qm_15 33 [some (.ref 6), some (.ref r), some (.int (nI i)), some (.int (nI z)), some (.int (nI z))] [.retAddr (zkey (zup t i z))] (h.1.set 6 (ai_obj 4 [.ref so, .ref fr, .ref to, cn, .int (nI z)]), h.2) _
    exact qg_ret6 rfl rfl
theorem zstr_1 {m i n : Nat} (hq : zat t i = 39) (hq2 : ¬ zat t (i + 1) = 39) : zstr t (m + 1) i n = (if 200 < n then 103 else 101, i + 1) := by
  cases m <;> (simp only [zstr]; rw [if_pos hq, if_neg hq2])
theorem zstr_2 {m i n : Nat} (hq : zat t i = 39) (hq2 : zat t (i + 1) = 39) : zstr t (m + 1 + 1) i n = zstr t m (i + 2) (n + 1) := by
  simp only [zstr]; rw [if_pos hq, if_pos hq2]
theorem zstr_3 {m i n : Nat} (hq : ¬ zat t i = 39) (hq2 : zat t i < 32 ∨ 126 < zat t i) : zstr t (m + 1) i n = (103, 0) := by
  cases m <;> (simp only [zstr]; rw [if_neg hq, if_pos hq2])
theorem zstr_4 {m i n : Nat} (hq : ¬ zat t i = 39) (hq2 : ¬ (zat t i < 32 ∨ 126 < zat t i)) : zstr t (m + 1) i n = zstr t m (i + 1) (n + 1) := by
  cases m <;> (simp only [zstr]; rw [if_neg hq, if_neg hq2])
/-- Tokens.string -/
theorem q_strl (hr : qrow h r b len t) (hl : t.length ≤ 1048576) {f : Nat} (hT : h.1[6]? = some (ai_obj 4 [.ref so, .ref fr, .ref to, cn, .int (nI f)])) : ∀ (m i n : Nat) (x5 : Option Value), t.length - i = m → n ≤ i → i ≤ t.length + 1 → qg L xs (d + 6) qm_25 6 [some (.ref 6), some (.ref r), some (.int (nI f)), some (.int (nI n)), some (.int (nI i)), x5] [] h (.inl (some (.retAddr (zstr t m i n).1)), (h.1.set 6 (ai_obj 4 [.ref so, .ref fr, .ref to, cn, .int (nI (if (zstr t m i n).2 = 0 then f else (zstr t m i n).2))]), h.2)) := by
  intro m
  induction m using Nat.strongRecOn with
  | _ m ih =>
    intro i n x5 hm hn hin
    have bad : h = (h.1.set 6 (ai_obj 4 [.ref so, .ref fr, .ref to, cn, .int (nI f)]), h.2) := by rw [q_same hT]
    by_cases hend : t.length ≤ i
    · have hm0 : m = 0 := by omega
      subst hm0
      rw [show zstr t 0 i n = (103, 0) from rfl]
      dsimp only
      rw [if_pos rfl, ← bad]
      refine qg_pls (n := 2) (k' := 8) (lo' := [some (.ref 6), some (.ref r), some (.int (nI f)), some (.int (nI n)), some (.int (nI i)), x5]) (S' := [.ref r, .int (nI i)]) (h' := h) rfl ?_
      refine qg_call (v := some (.int (nI t.length))) (h' := h) (as := [.ref r]) rfl rfl rfl rfl rfl rfl rfl (ai_rcv1 rfl rfl (qrow_obj hr)) (qe_up (by omega) (q_size (d := d) hr)) ?_
      show qg L xs _ qm_25 9 [some (.ref 6), some (.ref r), some (.int (nI f)), some (.int (nI n)), some (.int (nI i)), x5] [.int (nI t.length), .int (nI i)] h _
      refine qg_icmp true rfl (qc_geT hend (by omega)) rfl ?_
      refine qg_pls (n := 1) (k' := 50) (lo' := [some (.ref 6), some (.ref r), some (.int (nI f)), some (.int (nI n)), some (.int (nI i)), x5]) (S' := [.retAddr 103]) (h' := h) rfl ?_
      exact qg_ret6 rfl rfl
    obtain ⟨m, rfl⟩ : ∃ k, m = k + 1 := ⟨m - 1, by omega⟩
    refine qg_pls (n := 2) (k' := 8) (lo' := [some (.ref 6), some (.ref r), some (.int (nI f)), some (.int (nI n)), some (.int (nI i)), x5]) (S' := [.ref r, .int (nI i)]) (h' := h) rfl ?_
    refine qg_call (v := some (.int (nI t.length))) (h' := h) (as := [.ref r]) rfl rfl rfl rfl rfl rfl rfl (ai_rcv1 rfl rfl (qrow_obj hr)) (qe_up (by omega) (q_size (d := d) hr)) ?_
    show qg L xs _ qm_25 9 [some (.ref 6), some (.ref r), some (.int (nI f)), some (.int (nI n)), some (.int (nI i)), x5] [.int (nI t.length), .int (nI i)] h _
    refine qg_icmp false rfl (qc_geF (by omega) (by omega)) rfl ?_
    refine qg_pls (n := 2) (k' := 12) (lo' := [some (.ref 6), some (.ref r), some (.int (nI f)), some (.int (nI n)), some (.int (nI i)), x5]) (S' := [.int (nI i), .ref r]) (h' := h) rfl ?_
    refine qg_call (v := some (.int (zat t i))) (h' := h) (as := [.ref r, .int (nI i)]) rfl rfl rfl rfl rfl rfl rfl (ai_rcv1 rfl rfl (qrow_obj hr)) (qe_up (by omega) (q_at (d := d) hr (by omega))) ?_
    show qg L xs _ qm_25 13 [some (.ref 6), some (.ref r), some (.int (nI f)), some (.int (nI n)), some (.int (nI i)), x5] [.int (zat t i)] h _
    refine qg_pls (n := 3) (k' := 16) (lo' := [some (.ref 6), some (.ref r), some (.int (nI f)), some (.int (nI n)), some (.int (nI i)), some (.int (zat t i))]) (S' := [.int 39, .int (zat t i)]) (h' := h) rfl ?_
    by_cases hq : zat t i = 39
    · skip
      refine qg_icmp false rfl (qb_neF hq) rfl ?_
      refine qg_pls (n := 4) (k' := 21) (lo' := [some (.ref 6), some (.ref r), some (.int (nI f)), some (.int (nI n)), some (.int (nI i)), some (.int (zat t i))]) (S' := [.int ((nI i) + 1), .ref r]) (h' := h) rfl ?_
      rw [show nI i + 1 = nI (i + 1) from nI_1 i]
      refine qg_call (v := some (.int (zat t (i + 1)))) (h' := h) (as := [.ref r, .int (nI (i + 1))]) rfl rfl rfl rfl rfl rfl rfl (ai_rcv1 rfl rfl (qrow_obj hr)) (qe_up (by omega) (q_at (d := d) hr (by omega))) ?_
      show qg L xs _ qm_25 22 [some (.ref 6), some (.ref r), some (.int (nI f)), some (.int (nI n)), some (.int (nI i)), some (.int (zat t i))] [.int (zat t (i + 1))] h _
      refine qg_pls (n := 1) (k' := 23) (lo' := [some (.ref 6), some (.ref r), some (.int (nI f)), some (.int (nI n)), some (.int (nI i)), some (.int (zat t i))]) (S' := [.int 39, .int (zat t (i + 1))]) (h' := h) rfl ?_
      by_cases hq2 : zat t (i + 1) = 39
      · have hlt : i + 1 < t.length := by
          rcases zat_nI t (i + 1) with ⟨q, -⟩ | ⟨q, -⟩
          · rw [q] at hq2; exact absurd hq2 (by decide)
          · exact q
        obtain ⟨m, rfl⟩ : ∃ k, m = k + 1 := ⟨m - 1, by omega⟩
        have e1 : zstr t (m + 1 + 1) i n = zstr t m (i + 2) (n + 1) := by
          exact zstr_2 hq hq2
        rw [e1]
        refine qg_icmp true rfl (qb_eqT hq2) rfl ?_
        refine qg_pls (n := 1) (k' := 37) (lo' := [some (.ref 6), some (.ref r), some (.int (nI f)), some (.int (nI n)), some (.int ((nI i) + 1)), some (.int (zat t i))]) (S' := []) (h' := h) rfl ?_
        rw [nI_1]
        refine qg_pls (n := 2) (k' := 47) (lo' := [some (.ref 6), some (.ref r), some (.int (nI f)), some (.int ((nI n) + 1)), some (.int (nI (i + 1))), some (.int (zat t i))]) (S' := []) (h' := h) rfl ?_
        rw [nI_1]
        refine qg_pls (n := 1) (k' := 48) (lo' := [some (.ref 6), some (.ref r), some (.int (nI f)), some (.int (nI (n + 1))), some (.int ((nI (i + 1)) + 1)), some (.int (zat t i))]) (S' := []) (h' := h) rfl ?_
        rw [nI_1]
        refine qg_pls (n := 1) (k' := 6) (lo' := [some (.ref 6), some (.ref r), some (.int (nI f)), some (.int (nI (n + 1))), some (.int (nI (i + 1 + 1))), some (.int (zat t i))]) (S' := []) (h' := h) rfl ?_
        exact ih m (by omega) (i + 2) (n + 1) _ (by omega) (by omega) (by omega)
      · have e1 : zstr t (m + 1) i n = (if 200 < n then 103 else 101, i + 1) := by
          exact zstr_1 hq hq2
        rw [e1]
        dsimp only
        rw [if_neg (show ¬ i + 1 = 0 by omega)]
        refine qg_icmp false rfl (qb_eqF hq2) rfl ?_
        refine qg_pls (n := 4) (k' := 28) (lo' := [some (.ref 6), some (.ref r), some (.int (nI f)), some (.int (nI n)), some (.int (nI i)), some (.int (zat t i))]) (S' := [.int ((nI i) + 1), .ref 6]) (h' := h) rfl ?_
        rw [show nI i + 1 = nI (i + 1) from nI_1 i]
        refine qg_putf rfl hT rfl rfl (Nat.le_of_ble_eq_true rfl) rfl ?_
        refine qg_pls (n := 2) (k' := 31) (lo' := [some (.ref 6), some (.ref r), some (.int (nI f)), some (.int (nI n)), some (.int (nI i)), some (.int (zat t i))]) (S' := [.int 200, .int (nI n)]) (h' := (h.1.set 6 (ai_obj 4 [.ref so, .ref fr, .ref to, cn, .int (nI (i + 1))]), h.2)) rfl ?_
        by_cases h2 : 200 < n
        · rw [if_pos h2]
          refine qg_icmp false rfl (qc_leF (b := 200) h2 (by omega)) rfl ?_
          refine qg_pls (n := 2) (k' := 35) (lo' := [some (.ref 6), some (.ref r), some (.int (nI f)), some (.int (nI n)), some (.int (nI i)), some (.int (zat t i))]) (S' := [.retAddr 103]) (h' := (h.1.set 6 (ai_obj 4 [.ref so, .ref fr, .ref to, cn, .int (nI (i + 1))]), h.2)) rfl ?_
          exact qg_ret6 rfl rfl
        · rw [if_neg h2]
          refine qg_icmp true rfl (qc_leT (b := 200) (by omega) (by decide)) rfl ?_
          refine qg_pls (n := 1) (k' := 35) (lo' := [some (.ref 6), some (.ref r), some (.int (nI f)), some (.int (nI n)), some (.int (nI i)), some (.int (zat t i))]) (S' := [.retAddr 101]) (h' := (h.1.set 6 (ai_obj 4 [.ref so, .ref fr, .ref to, cn, .int (nI (i + 1))]), h.2)) rfl ?_
          exact qg_ret6 rfl rfl
    · skip
      refine qg_icmp true rfl (qb_neT hq) rfl ?_
      refine qg_pls (n := 2) (k' := 40) (lo' := [some (.ref 6), some (.ref r), some (.int (nI f)), some (.int (nI n)), some (.int (nI i)), some (.int (zat t i))]) (S' := [.int 32, .int (zat t i)]) (h' := h) rfl ?_
      by_cases h32 : zat t i < 32
      · have e1 : zstr t (m + 1) i n = (103, 0) := zstr_3 hq (Or.inl h32)
        rw [e1]
        dsimp only
        rw [if_pos rfl, ← bad]
        refine qg_icmp true rfl (qb_ltT h32) rfl ?_
        refine qg_pls (n := 1) (k' := 45) (lo' := [some (.ref 6), some (.ref r), some (.int (nI f)), some (.int (nI n)), some (.int (nI i)), some (.int (zat t i))]) (S' := [.retAddr 103]) (h' := h) rfl ?_
        exact qg_ret6 rfl rfl
      · skip
        refine qg_icmp false rfl (qb_ltF h32) rfl ?_
        refine qg_pls (n := 2) (k' := 43) (lo' := [some (.ref 6), some (.ref r), some (.int (nI f)), some (.int (nI n)), some (.int (nI i)), some (.int (zat t i))]) (S' := [.int 126, .int (zat t i)]) (h' := h) rfl ?_
        by_cases h126 : 126 < zat t i
        · have e1 : zstr t (m + 1) i n = (103, 0) := zstr_3 hq (Or.inr h126)
          rw [e1]
          dsimp only
          rw [if_pos rfl, ← bad]
          refine qg_icmp false rfl (qb_leF h126) rfl ?_
          refine qg_pls (n := 1) (k' := 45) (lo' := [some (.ref 6), some (.ref r), some (.int (nI f)), some (.int (nI n)), some (.int (nI i)), some (.int (zat t i))]) (S' := [.retAddr 103]) (h' := h) rfl ?_
          exact qg_ret6 rfl rfl
        · have e1 : zstr t (m + 1) i n = zstr t m (i + 1) (n + 1) := zstr_4 hq (fun q => q.elim h32 h126)
          rw [e1]
          refine qg_icmp true rfl (qb_leT h126) rfl ?_
          refine qg_pls (n := 1) (k' := 47) (lo' := [some (.ref 6), some (.ref r), some (.int (nI f)), some (.int ((nI n) + 1)), some (.int (nI i)), some (.int (zat t i))]) (S' := []) (h' := h) rfl ?_
          rw [nI_1]
          refine qg_pls (n := 1) (k' := 48) (lo' := [some (.ref 6), some (.ref r), some (.int (nI f)), some (.int (nI (n + 1))), some (.int ((nI i) + 1)), some (.int (zat t i))]) (S' := []) (h' := h) rfl ?_
          rw [nI_1]
          refine qg_pls (n := 1) (k' := 6) (lo' := [some (.ref 6), some (.ref r), some (.int (nI f)), some (.int (nI (n + 1))), some (.int (nI (i + 1))), some (.int (zat t i))]) (S' := []) (h' := h) rfl ?_
          exact ih m (by omega) (i + 1) (n + 1) _ (by omega) (by omega) (by omega)
theorem q_string (hr : qrow h r b len t) (hl : t.length ≤ 1048575) {f : Nat} (hf : f ≤ t.length) (hT : h.1[6]? = some (ai_obj 4 [.ref so, .ref fr, .ref to, cn, .int (nI f)])) : qe L xs (d + 7) 25 [.ref 6, .ref r, .int (nI f)] h (.inl (some (.retAddr (zstr t (t.length - (f + 1)) (f + 1) 0).1)), (h.1.set 6 (ai_obj 4 [.ref so, .ref fr, .ref to, cn, .int (nI (if (zstr t (t.length - (f + 1)) (f + 1) 0).2 = 0 then f else (zstr t (t.length - (f + 1)) (f + 1) 0).2))]), h.2)) := by
  refine qe_of (M := qm_25) rfl rfl ?_
  show qg L xs _ qm_25 0 [some (.ref 6), some (.ref r), some (.int (nI f)), none, none, none] [] h _
  refine qg_pls (n := 6) (k' := 6) (lo' := [some (.ref 6), some (.ref r), some (.int (nI f)), some (.int 0), some (.int ((nI f) + 1)), none]) (S' := []) (h' := h) rfl ?_
  rw [nI_1]
  exact q_strl hr (by omega) hT _ (f + 1) 0 _ rfl (Nat.zero_le _) (by omega)
/-- Tokens.sign -/
theorem q_sign {f m : Nat} {c : Int32} (hm : m < 256) (hT : h.1[6]? = some (ai_obj 4 [.ref so, .ref fr, .ref to, cn, .int (nI f)])) : qe L xs (d + 7) 26 [.ref 6, .int (nI m), .int c] h (.inl (some (.retAddr (if ztwo (nI m) c = 103 then zone (nI m) else ztwo (nI m) c))), (h.1.set 6 (ai_obj 4 [.ref so, .ref fr, .ref to, cn, .int (nI (if ztwo (nI m) c = 103 then f + 1 else f + 2))]), h.2)) := by
  have h2 : ztwo (nI m) c < 104 := by
    unfold ztwo
    (repeat' split) <;> decide
  refine qe_of (M := qm_26) rfl rfl ?_
  show qg L xs _ qm_26 0 [some (.ref 6), some (.int (nI m)), some (.int c), none] [] h _
  refine qg_pls (n := 2) (k' := 2) (lo' := [some (.ref 6), some (.int (nI m)), some (.int c), none]) (S' := [.int c, .int (nI m)]) (h' := h) rfl ?_
  refine qg_call (v := some (.retAddr (ztwo (nI m) c))) (h' := h) (as := [.int (nI m), .int c]) rfl rfl rfl rfl rfl rfl rfl rfl (qe_up (by omega) (q_two (d := d))) ?_
  show qg L xs _ qm_26 3 [some (.ref 6), some (.int (nI m)), some (.int c), none] [.retAddr (ztwo (nI m) c)] h _
  refine qg_pls (n := 3) (k' := 6) (lo' := [some (.ref 6), some (.int (nI m)), some (.int c), some (.retAddr (ztwo (nI m) c))]) (S' := [.ref 6, .ref 6]) (h' := h) rfl ?_
  refine qg_getf (v := .int (nI f)) rfl hT rfl rfl rfl ?_
  refine qg_pls (n := 2) (k' := 9) (lo' := [some (.ref 6), some (.int (nI m)), some (.int c), some (.retAddr (ztwo (nI m) c))]) (S' := [.retAddr 103, .retAddr (ztwo (nI m) c), .int (nI f), .ref 6]) (h' := h) rfl ?_
  by_cases h1 : ztwo (nI m) c = 103
  · rw [if_pos h1, if_pos h1]
    refine qg_acmp false rfl (qzk h2 (by decide)) (qa_neF h1) rfl ?_
    refine qg_pls (n := 3) (k' := 14) (lo' := [some (.ref 6), some (.int (nI m)), some (.int c), some (.retAddr (ztwo (nI m) c))]) (S' := [.int ((nI f) + 1), .ref 6]) (h' := h) rfl ?_
    rw [show nI f + 1 = nI (f + 1) from nI_1 f]
    refine qg_putf rfl hT rfl rfl (Nat.le_of_ble_eq_true rfl) rfl ?_
    refine qg_pls (n := 2) (k' := 17) (lo' := [some (.ref 6), some (.int (nI m)), some (.int c), some (.retAddr (ztwo (nI m) c))]) (S' := [.retAddr 103, .retAddr (ztwo (nI m) c)]) (h' := (h.1.set 6 (ai_obj 4 [.ref so, .ref fr, .ref to, cn, .int (nI (f + 1))]), h.2)) rfl ?_
    refine qg_acmp false rfl (qzk h2 (by decide)) (qa_neF h1) rfl ?_
    refine qg_pls (n := 1) (k' := 19) (lo' := [some (.ref 6), some (.int (nI m)), some (.int c), some (.retAddr (ztwo (nI m) c))]) (S' := [.int (nI m)]) (h' := (h.1.set 6 (ai_obj 4 [.ref so, .ref fr, .ref to, cn, .int (nI (f + 1))]), h.2)) rfl ?_
    refine qg_call (v := some (.retAddr (zone (nI m)))) (h' := (h.1.set 6 (ai_obj 4 [.ref so, .ref fr, .ref to, cn, .int (nI (f + 1))]), h.2)) (as := [.int (nI m)]) rfl rfl rfl rfl rfl rfl rfl rfl (qe_up (by omega) (q_one (d := d) hm)) ?_
    show qg L xs _ qm_26 20 [some (.ref 6), some (.int (nI m)), some (.int c), some (.retAddr (ztwo (nI m) c))] [.retAddr (zone (nI m))] (h.1.set 6 (ai_obj 4 [.ref so, .ref fr, .ref to, cn, .int (nI (f + 1))]), h.2) _
    refine qg_pls (n := 1) (k' := 22) (lo' := [some (.ref 6), some (.int (nI m)), some (.int c), some (.retAddr (ztwo (nI m) c))]) (S' := [.retAddr (zone (nI m))]) (h' := (h.1.set 6 (ai_obj 4 [.ref so, .ref fr, .ref to, cn, .int (nI (f + 1))]), h.2)) rfl ?_
    exact qg_ret6 rfl rfl
  · rw [if_neg h1, if_neg h1]
    refine qg_acmp true rfl (qzk h2 (by decide)) (qa_neT h1) rfl ?_
    refine qg_pls (n := 2) (k' := 14) (lo' := [some (.ref 6), some (.int (nI m)), some (.int c), some (.retAddr (ztwo (nI m) c))]) (S' := [.int ((nI f) + 2), .ref 6]) (h' := h) rfl ?_
    rw [show nI f + 2 = nI (f + 2) from nI_add f 2]
    refine qg_putf rfl hT rfl rfl (Nat.le_of_ble_eq_true rfl) rfl ?_
    refine qg_pls (n := 2) (k' := 17) (lo' := [some (.ref 6), some (.int (nI m)), some (.int c), some (.retAddr (ztwo (nI m) c))]) (S' := [.retAddr 103, .retAddr (ztwo (nI m) c)]) (h' := (h.1.set 6 (ai_obj 4 [.ref so, .ref fr, .ref to, cn, .int (nI (f + 2))]), h.2)) rfl ?_
    refine qg_acmp true rfl (qzk h2 (by decide)) (qa_neT h1) rfl ?_
    refine qg_pls (n := 1) (k' := 22) (lo' := [some (.ref 6), some (.int (nI m)), some (.int c), some (.retAddr (ztwo (nI m) c))]) (S' := [.retAddr (ztwo (nI m) c)]) (h' := (h.1.set 6 (ai_obj 4 [.ref so, .ref fr, .ref to, cn, .int (nI (f + 2))]), h.2)) rfl ?_
    exact qg_ret6 rfl rfl
/-- Tokens.sortFrom -/
theorem q_sortFrom (hr : qrow h r b len t) (hl : t.length ≤ 1048575) {i : Nat} (hi : i ≤ t.length) (hT : h.1[6]? = some (ai_obj 4 [.ref so, .ref fr, .ref to, cn, rc])) (h6 : r ≠ 6 ∧ b ≠ 6) : qe L xs (d + 8) 11 [.ref 6, .ref r, .int (nI i)] h (.inl (some (.retAddr (ztok t i).1)), (h.1.set 6 (ai_obj 4 [.ref so, .ref fr, .ref to, cn, .int (nI (ztok t i).2)]), h.2)) := by
  have hT1 := q_set (y := ai_obj 4 [.ref so, .ref fr, .ref to, cn, .int (nI i)]) hT
  have hr2 : qrow (h.1.set 6 (ai_obj 4 [.ref so, .ref fr, .ref to, cn, .int (nI i)]), h.2) r b len t := by
    obtain ⟨f, r1, r2, r3⟩ := hr
    exact ⟨f, q_stay r1 (fun e => h6.1 e.symm), q_stay r2 (fun e => h6.2 e.symm), r3⟩
  refine qe_of (M := qm_11) rfl rfl ?_
  show qg L xs _ qm_11 0 [some (.ref 6), some (.ref r), some (.int (nI i)), none] [] h _
  refine qg_pls (n := 2) (k' := 2) (lo' := [some (.ref 6), some (.ref r), some (.int (nI i)), none]) (S' := [.int (nI i), .ref r]) (h' := h) rfl ?_
  refine qg_call (v := some (.int (zat t i))) (h' := h) (as := [.ref r, .int (nI i)]) rfl rfl rfl rfl rfl rfl rfl (ai_rcv1 rfl rfl (qrow_obj hr)) (qe_up (by omega) (q_at (d := d) hr (by omega))) ?_
  show qg L xs _ qm_11 3 [some (.ref 6), some (.ref r), some (.int (nI i)), none] [.int (zat t i)] h _
  refine qg_pls (n := 3) (k' := 6) (lo' := [some (.ref 6), some (.ref r), some (.int (nI i)), some (.int (zat t i))]) (S' := [.int (nI i), .ref 6]) (h' := h) rfl ?_
  refine qg_putf rfl hT rfl rfl (Nat.le_of_ble_eq_true rfl) rfl ?_
  refine qg_pls (n := 2) (k' := 9) (lo' := [some (.ref 6), some (.ref r), some (.int (nI i)), some (.int (zat t i))]) (S' := [.int (-1), .int (zat t i)]) (h' := (h.1.set 6 (ai_obj 4 [.ref so, .ref fr, .ref to, cn, .int (nI i)]), h.2)) rfl ?_
  by_cases h1 : zat t i = -1
  · rw [show ztok t i = (102, i) from if_pos h1]
    refine qg_icmp false rfl (qb_neF h1) rfl ?_
    refine qg_pls (n := 1) (k' := 11) (lo' := [some (.ref 6), some (.ref r), some (.int (nI i)), some (.int (zat t i))]) (S' := [.retAddr 102]) (h' := (h.1.set 6 (ai_obj 4 [.ref so, .ref fr, .ref to, cn, .int (nI i)]), h.2)) rfl ?_
    exact qg_ret6 rfl rfl
  refine qg_icmp true rfl (qb_neT h1) rfl ?_
  refine qg_pls (n := 1) (k' := 13) (lo' := [some (.ref 6), some (.ref r), some (.int (nI i)), some (.int (zat t i))]) (S' := [.int (zat t i)]) (h' := (h.1.set 6 (ai_obj 4 [.ref so, .ref fr, .ref to, cn, .int (nI i)]), h.2)) rfl ?_
  by_cases h2 : zdig (zat t i)
  · rw [show ztok t i = _ from (if_neg h1).trans (if_pos h2)]
    have hd := q_digits (L := L) (xs := xs) (d := d) hr2 (by omega) hi hT1
    rw [List.set_set] at hd
    refine qg_call (v := some (.int 1)) (h' := (h.1.set 6 (ai_obj 4 [.ref so, .ref fr, .ref to, cn, .int (nI i)]), h.2)) (as := [.int (zat t i)]) rfl rfl rfl rfl rfl rfl rfl rfl ((by have hh := qe_up (d' := d + 7) (by omega) (q_dig (L := L) (xs := xs) (d := d) (h := (h.1.set 6 (ai_obj 4 [.ref so, .ref fr, .ref to, cn, .int (nI i)]), h.2)) (c := zat t i)); rw [if_pos h2] at hh; exact hh)) ?_
    show qg L xs _ qm_11 14 [some (.ref 6), some (.ref r), some (.int (nI i)), some (.int (zat t i))] [.int 1] (h.1.set 6 (ai_obj 4 [.ref so, .ref fr, .ref to, cn, .int (nI i)]), h.2) _
    refine qg_if false rfl (rfl) rfl ?_
    refine qg_pls (n := 3) (k' := 18) (lo' := [some (.ref 6), some (.ref r), some (.int (nI i)), some (.int (zat t i))]) (S' := [.int (nI i), .ref r, .ref 6]) (h' := (h.1.set 6 (ai_obj 4 [.ref so, .ref fr, .ref to, cn, .int (nI i)]), h.2)) rfl ?_
    refine qg_call (v := some (.retAddr (if 18 < zrun t zdig (t.length - i) i - i then 103 else 100))) (h' := (h.1.set 6 (ai_obj 4 [.ref so, .ref fr, .ref to, cn, .int (nI (zrun t zdig (t.length - i) i))]), h.2)) (as := [.ref 6, .ref r, .int (nI i)]) rfl rfl rfl rfl rfl rfl rfl (ai_rcv1 rfl rfl (q_set hT)) (hd) ?_
    show qg L xs _ qm_11 19 [some (.ref 6), some (.ref r), some (.int (nI i)), some (.int (zat t i))] [.retAddr (if 18 < zrun t zdig (t.length - i) i - i then 103 else 100)] (h.1.set 6 (ai_obj 4 [.ref so, .ref fr, .ref to, cn, .int (nI (zrun t zdig (t.length - i) i))]), h.2) _
    exact qg_ret6 rfl rfl
  refine qg_call (v := some (.int 0)) (h' := (h.1.set 6 (ai_obj 4 [.ref so, .ref fr, .ref to, cn, .int (nI i)]), h.2)) (as := [.int (zat t i)]) rfl rfl rfl rfl rfl rfl rfl rfl ((by have hh := qe_up (d' := d + 7) (by omega) (q_dig (L := L) (xs := xs) (d := d) (h := (h.1.set 6 (ai_obj 4 [.ref so, .ref fr, .ref to, cn, .int (nI i)]), h.2)) (c := zat t i)); rw [if_neg h2] at hh; exact hh)) ?_
  show qg L xs _ qm_11 14 [some (.ref 6), some (.ref r), some (.int (nI i)), some (.int (zat t i))] [.int 0] (h.1.set 6 (ai_obj 4 [.ref so, .ref fr, .ref to, cn, .int (nI i)]), h.2) _
  refine qg_if true rfl (rfl) rfl ?_
  refine qg_pls (n := 1) (k' := 21) (lo' := [some (.ref 6), some (.ref r), some (.int (nI i)), some (.int (zat t i))]) (S' := [.int (zat t i)]) (h' := (h.1.set 6 (ai_obj 4 [.ref so, .ref fr, .ref to, cn, .int (nI i)]), h.2)) rfl ?_
  by_cases h3 : zofw (zat t i)
  · rw [show ztok t i = _ from (if_neg h1).trans ((if_neg h2).trans (if_pos h3))]
    have hd := q_wordT (L := L) (xs := xs) (d := d) hr2 (by omega) hi hT1 h6
    rw [List.set_set] at hd
    refine qg_call (v := some (.int 1)) (h' := (h.1.set 6 (ai_obj 4 [.ref so, .ref fr, .ref to, cn, .int (nI i)]), h.2)) (as := [.int (zat t i)]) rfl rfl rfl rfl rfl rfl rfl rfl ((by have hh := qe_up (d' := d + 7) (by omega) (q_ofw (L := L) (xs := xs) (d := d) (h := (h.1.set 6 (ai_obj 4 [.ref so, .ref fr, .ref to, cn, .int (nI i)]), h.2)) (c := zat t i)); rw [if_pos h3] at hh; exact hh)) ?_
    show qg L xs _ qm_11 22 [some (.ref 6), some (.ref r), some (.int (nI i)), some (.int (zat t i))] [.int 1] (h.1.set 6 (ai_obj 4 [.ref so, .ref fr, .ref to, cn, .int (nI i)]), h.2) _
    refine qg_if false rfl (rfl) rfl ?_
    refine qg_pls (n := 3) (k' := 26) (lo' := [some (.ref 6), some (.ref r), some (.int (nI i)), some (.int (zat t i))]) (S' := [.int (nI i), .ref r, .ref 6]) (h' := (h.1.set 6 (ai_obj 4 [.ref so, .ref fr, .ref to, cn, .int (nI i)]), h.2)) rfl ?_
    refine qg_call (v := some (.retAddr (if 30 < zrun t zofw (t.length - i) i - i then 103 else zkey (zup t i (zrun t zofw (t.length - i) i))))) (h' := (h.1.set 6 (ai_obj 4 [.ref so, .ref fr, .ref to, cn, .int (nI (zrun t zofw (t.length - i) i))]), h.2)) (as := [.ref 6, .ref r, .int (nI i)]) rfl rfl rfl rfl rfl rfl rfl (ai_rcv1 rfl rfl (q_set hT)) (hd) ?_
    show qg L xs _ qm_11 27 [some (.ref 6), some (.ref r), some (.int (nI i)), some (.int (zat t i))] [.retAddr (if 30 < zrun t zofw (t.length - i) i - i then 103 else zkey (zup t i (zrun t zofw (t.length - i) i)))] (h.1.set 6 (ai_obj 4 [.ref so, .ref fr, .ref to, cn, .int (nI (zrun t zofw (t.length - i) i))]), h.2) _
    exact qg_ret6 rfl rfl
  refine qg_call (v := some (.int 0)) (h' := (h.1.set 6 (ai_obj 4 [.ref so, .ref fr, .ref to, cn, .int (nI i)]), h.2)) (as := [.int (zat t i)]) rfl rfl rfl rfl rfl rfl rfl rfl ((by have hh := qe_up (d' := d + 7) (by omega) (q_ofw (L := L) (xs := xs) (d := d) (h := (h.1.set 6 (ai_obj 4 [.ref so, .ref fr, .ref to, cn, .int (nI i)]), h.2)) (c := zat t i)); rw [if_neg h3] at hh; exact hh)) ?_
  show qg L xs _ qm_11 22 [some (.ref 6), some (.ref r), some (.int (nI i)), some (.int (zat t i))] [.int 0] (h.1.set 6 (ai_obj 4 [.ref so, .ref fr, .ref to, cn, .int (nI i)]), h.2) _
  refine qg_if true rfl (rfl) rfl ?_
  refine qg_pls (n := 2) (k' := 30) (lo' := [some (.ref 6), some (.ref r), some (.int (nI i)), some (.int (zat t i))]) (S' := [.int 39, .int (zat t i)]) (h' := (h.1.set 6 (ai_obj 4 [.ref so, .ref fr, .ref to, cn, .int (nI i)]), h.2)) rfl ?_
  by_cases h4 : zat t i = 39
  · rw [show ztok t i = _ from (if_neg h1).trans ((if_neg h2).trans ((if_neg h3).trans (if_pos h4)))]
    have hd := q_string (L := L) (xs := xs) (d := d) hr2 hl hi hT1
    rw [List.set_set] at hd
    refine qg_icmp false rfl (qb_neF h4) rfl ?_
    refine qg_pls (n := 3) (k' := 34) (lo' := [some (.ref 6), some (.ref r), some (.int (nI i)), some (.int (zat t i))]) (S' := [.int (nI i), .ref r, .ref 6]) (h' := (h.1.set 6 (ai_obj 4 [.ref so, .ref fr, .ref to, cn, .int (nI i)]), h.2)) rfl ?_
    refine qg_call (v := some (.retAddr (zstr t (t.length - (i + 1)) (i + 1) 0).1)) (h' := (h.1.set 6 (ai_obj 4 [.ref so, .ref fr, .ref to, cn, .int (nI (if (zstr t (t.length - (i + 1)) (i + 1) 0).2 = 0 then i else (zstr t (t.length - (i + 1)) (i + 1) 0).2))]), h.2)) (as := [.ref 6, .ref r, .int (nI i)]) rfl rfl rfl rfl rfl rfl rfl (ai_rcv1 rfl rfl (q_set hT)) (hd) ?_
    show qg L xs _ qm_11 35 [some (.ref 6), some (.ref r), some (.int (nI i)), some (.int (zat t i))] [.retAddr (zstr t (t.length - (i + 1)) (i + 1) 0).1] (h.1.set 6 (ai_obj 4 [.ref so, .ref fr, .ref to, cn, .int (nI (if (zstr t (t.length - (i + 1)) (i + 1) 0).2 = 0 then i else (zstr t (t.length - (i + 1)) (i + 1) 0).2))]), h.2) _
    refine qg_pls (n := 1) (k' := 44) (lo' := [some (.ref 6), some (.ref r), some (.int (nI i)), some (.int (zat t i))]) (S' := [.retAddr (zstr t (t.length - (i + 1)) (i + 1) 0).1]) (h' := (h.1.set 6 (ai_obj 4 [.ref so, .ref fr, .ref to, cn, .int (nI (if (zstr t (t.length - (i + 1)) (i + 1) 0).2 = 0 then i else (zstr t (t.length - (i + 1)) (i + 1) 0).2))]), h.2)) rfl ?_
    exact qg_ret6 rfl rfl
  · obtain ⟨m, hm, em⟩ : ∃ m, m < 256 ∧ zat t i = nI m := by
      rcases zat_nI t i with ⟨q, -⟩ | ⟨-, q⟩
      · exact absurd q h1
      · exact q
    have e1 : ztok t i = (if ztwo (zat t i) (zat t (i + 1)) = 103 then zone (zat t i) else ztwo (zat t i) (zat t (i + 1)), if ztwo (zat t i) (zat t (i + 1)) = 103 then i + 1 else i + 2) := by
      rw [show ztok t i = _ from (if_neg h1).trans ((if_neg h2).trans ((if_neg h3).trans (if_neg h4)))]
      split <;> rfl
    rw [e1]
    have hd := q_sign (L := L) (xs := xs) (d := d) (h := (h.1.set 6 (ai_obj 4 [.ref so, .ref fr, .ref to, cn, .int (nI i)]), h.2)) (c := zat t (i + 1)) hm hT1
    rw [List.set_set, ← em] at hd
    refine qg_icmp true rfl (qb_neT h4) rfl ?_
    refine qg_pls (n := 6) (k' := 42) (lo' := [some (.ref 6), some (.ref r), some (.int (nI i)), some (.int (zat t i))]) (S' := [.int ((nI i) + 1), .ref r, .int (zat t i), .ref 6]) (h' := (h.1.set 6 (ai_obj 4 [.ref so, .ref fr, .ref to, cn, .int (nI i)]), h.2)) rfl ?_
    rw [show nI i + 1 = nI (i + 1) from nI_1 i]
    refine qg_call (v := some (.int (zat t (i + 1)))) (h' := (h.1.set 6 (ai_obj 4 [.ref so, .ref fr, .ref to, cn, .int (nI i)]), h.2)) (as := [.ref r, .int (nI (i + 1))]) rfl rfl rfl rfl rfl rfl rfl (ai_rcv1 rfl rfl (qrow_obj hr2)) (qe_up (by omega) (q_at (d := d) hr2 (by omega))) ?_
    show qg L xs _ qm_11 43 [some (.ref 6), some (.ref r), some (.int (nI i)), some (.int (zat t i))] [.int (zat t (i + 1)), .int (zat t i), .ref 6] (h.1.set 6 (ai_obj 4 [.ref so, .ref fr, .ref to, cn, .int (nI i)]), h.2) _
    refine qg_call (v := some (.retAddr (if ztwo (zat t i) (zat t (i + 1)) = 103 then zone (zat t i) else ztwo (zat t i) (zat t (i + 1))))) (h' := (h.1.set 6 (ai_obj 4 [.ref so, .ref fr, .ref to, cn, .int (nI (if ztwo (zat t i) (zat t (i + 1)) = 103 then i + 1 else i + 2))]), h.2)) (as := [.ref 6, .int (zat t i), .int (zat t (i + 1))]) rfl rfl rfl rfl rfl rfl rfl (ai_rcv1 rfl rfl (q_set hT)) (hd) ?_
    show qg L xs _ qm_11 44 [some (.ref 6), some (.ref r), some (.int (nI i)), some (.int (zat t i))] [.retAddr (if ztwo (zat t i) (zat t (i + 1)) = 103 then zone (zat t i) else ztwo (zat t i) (zat t (i + 1)))] (h.1.set 6 (ai_obj 4 [.ref so, .ref fr, .ref to, cn, .int (nI (if ztwo (zat t i) (zat t (i + 1)) = 103 then i + 1 else i + 2))]), h.2) _
    exact qg_ret6 rfl rfl
end QTK
