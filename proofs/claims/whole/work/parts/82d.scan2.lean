/-! TOKENS ARE KEPT; A TEXT IS SCANNED. (Printed by wip/whole/pp.py from wip/whole/src.) -/
section QSK
variable {L : Nat} {xs : Nat → Int32} {d : Nat} {h h' : ai_H} {r b len : Nat} {t : List Int32} {so fr to n : Nat} {rc : Value} {l : List (Nat × Nat × Nat)}
section RU
variable {M : ai_M} {k : Nat} {lo : ai_L} {S : List Value} {o : ai_O}
theorem qg_aast {pc ln : Nat} {rs : List Int} {nm : String} {v a j n : Nat} {C : String} {g : Nat → Value} {ci : Nat} {fs : List Value} (hk : (ai_Mc M)[k]? = some (pc, .aastore, ln, 0, rs, nm)) (hl : h.1[a]? = some (ai_refs C n g)) (hv : qr_Z L xs v = some (ai_obj ci fs)) (hC : (qr_G L xs).2.1 ci = C) (hj : j < n) (hn : n < 2 ^ 31) (hg : qg L xs d M (k + 1) lo S (h.1.set a (ai_refs C n (va_up g j (.retAddr v))), h.2) o) : qg L xs d M k lo (.retAddr v :: .int (nI j) :: .ref a :: S) h o := by
  refine qg_eff (t := 0) (lo' := lo) (S' := S) (h' := (h.1.set a (ai_refs C n (va_up g j (.retAddr v))), h.2)) hk ?_ rfl hg
  simp only [ai_eff, ai_aast]
  rw [hl]
  dsimp only
  rw [show (qr_G L xs).1 v = _ from hv]
  dsimp only
  rw [nI_clamp (by omega), if_pos ⟨hC, nI_pos (by omega), hj⟩]
theorem qg_newq {pc ln n x : Nat} {rs : List Int} {nm : String} (hk : (ai_Mc M)[k]? = some (pc, .anewarray x, ln, 0, rs, nm)) (hn : n ≤ 1048576) (hg : qg L xs d M (k + 1) lo (.ref h.1.length :: S) (h.1 ++ [ai_refs nm n (fun _ => .null)], h.2.1 + 1, h.2.2 + n) o) : qg L xs d M k lo (.int (nI n) :: S) h o := by
  refine qg_eff (t := 0) (lo' := lo) (S' := .ref h.1.length :: S) (h' := (h.1 ++ [ai_refs nm n (fun _ => .null)], h.2.1 + 1, h.2.2 + n)) hk ?_ rfl hg
  simp only [ai_eff, ai_newq]
  rw [nI_clamp (by omega), if_pos ⟨nI_pos (by omega), hn⟩]
theorem q_copyR {C : String} {a c n0 n1 n sp dp : Nat} {f g : Nat → Value} (ha : h.1[a]? = some (ai_refs C n0 f)) (hc : h.1[c]? = some (ai_refs C n1 g)) (h0 : n0 < 2 ^ 31) (h1 : n1 < 2 ^ 31) (hs : sp + n ≤ n0) (hd : dp + n ≤ n1) : ai_copy (.int (nI n) :: .int (nI dp) :: .ref c :: .int (nI sp) :: .ref a :: S) h = some (S, (h.1.set c (ai_refs C n1 (va_cpy f g sp dp n)), h.2)) := by
  simp only [ai_copy]
  rw [if_neg (by
    intro e
    rcases e with e | e | e
    · exact nI_pos (by omega) e
    · exact nI_pos (by omega) e
    · exact nI_pos (by omega) e), ha]
  dsimp only
  rw [hc]
  dsimp only
  rw [nI_clamp (show n < 2 ^ 31 by omega), nI_clamp (show sp < 2 ^ 31 by omega), nI_clamp (show dp < 2 ^ 31 by omega), if_pos ⟨rfl, hs, hd⟩]
end RU
/-- the tokens that are kept so far -/
def qta (h : ai_H) (so fr to n : Nat) (rc : Value) (l : List (Nat × Nat × Nat)) : Prop := ∃ g f1 f2, h.1[6]? = some (ai_obj 4 [.ref so, .ref fr, .ref to, .int (nI l.length), rc]) ∧ h.1[so]? = some (ai_refs "QueryReader$Sort" n g) ∧ h.1[fr]? = some (ai_num .int n f1) ∧ h.1[to]? = some (ai_num .int n f2) ∧ fr ≠ to ∧ l.length ≤ n ∧ (∃ e, e ≤ 11 ∧ n = 64 * 2 ^ e) ∧ ∀ i, i < l.length → g i = .retAddr (l.getD i (102, 0, 0)).1 ∧ f1 i = nI (l.getD i (102, 0, 0)).2.1 ∧ f2 i = nI (l.getD i (102, 0, 0)).2.2
/-- what may have changed -/
def qto (h : ai_H) (so fr to n : Nat) (h' : ai_H) (so' fr' to' n' : Nat) : Prop := h.1.length ≤ h'.1.length ∧ (∀ i, i ≠ 6 → i ≠ so → i ≠ fr → i ≠ to → i < h.1.length → h'.1[i]? = h.1[i]?) ∧ (so' = so ∨ h.1.length ≤ so') ∧ (fr' = fr ∨ h.1.length ≤ fr') ∧ (to' = to ∨ h.1.length ≤ to') ∧ n ≤ n' ∧ 64 * h'.2.1 + 3 * n ≤ 64 * h.2.1 + 3 * n' ∧ h'.2.2 + 6 * n ≤ h.2.2 + 6 * n'
theorem qto_refl : qto h so fr to n h so fr to n := ⟨Nat.le_refl _, fun _ _ _ _ _ _ => rfl, Or.inl rfl, Or.inl rfl, Or.inl rfl, Nat.le_refl _, Nat.le_refl _, Nat.le_refl _⟩
theorem qto_trans {h2 : ai_H} {so' fr' to' n' so2 fr2 to2 n2 : Nat} (a : qto h so fr to n h' so' fr' to' n') (c : qto h' so' fr' to' n' h2 so2 fr2 to2 n2) : qto h so fr to n h2 so2 fr2 to2 n2 := by
  obtain ⟨a1, a2, a3, a4, a5, a6, a7, a8⟩ := a
  obtain ⟨c1, c2, c3, c4, c5, c6, c7, c8⟩ := c
  refine ⟨by omega, fun i i1 i2 i3 i4 i5 => ?_, by omega, by omega, by omega, by omega, by omega, by omega⟩
  rw [c2 i i1 (by omega) (by omega) (by omega) (by omega), a2 i i1 i2 i3 i4 i5]
theorem q_keep0 {k f z : Nat} (hk : k < 104) (hq : qta h so fr to n (.int (nI z)) l) (hlt : l.length < n) (hn : n ≤ 131072) : ∃ h', (∀ o, qg L xs d qm_29 59 [some (.ref 6), some (.retAddr k), some (.int (nI f))] [] h' o → qg L xs d qm_29 13 [some (.ref 6), some (.retAddr k), some (.int (nI f))] [] h o) ∧ qta h' so fr to n (.int (nI z)) (l ++ [(k, f, z)]) ∧ qto h so fr to n h' so fr to n := by
  obtain ⟨g, f1, f2, c1, c2, c3, c4, c5, c6, c7, c8⟩ := hq
  have n6s : so ≠ 6 := q_ne c2 c1 (by intro e; cases e)
  have n6f : fr ≠ 6 := q_ne c3 c1 (by intro e; cases e)
  have n6t : to ≠ 6 := q_ne c4 c1 (by intro e; cases e)
  have nsf : so ≠ fr := q_ne c2 c3 (by intro e; cases e)
  have nst : so ≠ to := q_ne c2 c4 (by intro e; cases e)
  have a1 := q_stay (x := ai_refs "QueryReader$Sort" n (va_up g l.length (.retAddr k))) c1 n6s
  have a3 := q_stay (x := ai_refs "QueryReader$Sort" n (va_up g l.length (.retAddr k))) c3 nsf
  have a4 := q_stay (x := ai_refs "QueryReader$Sort" n (va_up g l.length (.retAddr k))) c4 nst
  have b1 := q_stay (x := ai_num .int n (upd f1 l.length (nI f))) a1 n6f
  have b4 := q_stay (x := ai_num .int n (upd f1 l.length (nI f))) a4 c5
  have d1 := q_stay (x := ai_num .int n (upd f2 l.length (nI z))) b1 n6t
  refine ⟨((((h.1.set so (ai_refs "QueryReader$Sort" n (va_up g l.length (.retAddr k)))).set fr (ai_num .int n (upd f1 l.length (nI f)))).set to (ai_num .int n (upd f2 l.length (nI z)))).set 6 (ai_obj 4 [.ref so, .ref fr, .ref to, .int (nI (l.length + 1)), .int (nI z)]), h.2), fun o hg => ?_, ⟨va_up g l.length (.retAddr k), upd f1 l.length (nI f), upd f2 l.length (nI z), ?_, ?_, ?_, ?_, c5, ?_, c7, fun i hi => ?_⟩, ?_⟩
  · skip
    refine qg_pls (n := 1) (k' := 14) (lo' := [some (.ref 6), some (.retAddr k), some (.int (nI f))]) (S' := [.ref 6]) (h' := h) rfl ?_
    refine qg_getf (v := .int (nI l.length)) rfl c1 rfl rfl rfl ?_
    refine qg_if false rfl (qc_lt0 (by omega)) rfl ?_
    refine qg_pls (n := 1) (k' := 17) (lo' := [some (.ref 6), some (.retAddr k), some (.int (nI f))]) (S' := [.ref 6]) (h' := h) rfl ?_
    refine qg_getf (v := .int (nI l.length)) rfl c1 rfl rfl rfl ?_
    refine qg_pls (n := 1) (k' := 19) (lo' := [some (.ref 6), some (.retAddr k), some (.int (nI f))]) (S' := [.ref 6, .int (nI l.length)]) (h' := h) rfl ?_
    refine qg_getf (v := .ref so) rfl c1 rfl rfl rfl ?_
    refine qg_alenq rfl c2 ?_
    refine qg_icmp false rfl (qc_geF hlt (by omega)) rfl ?_
    refine qg_pls (n := 1) (k' := 23) (lo' := [some (.ref 6), some (.retAddr k), some (.int (nI f))]) (S' := [.ref 6]) (h' := h) rfl ?_
    refine qg_getf (v := .int (nI l.length)) rfl c1 rfl rfl rfl ?_
    refine qg_pls (n := 1) (k' := 25) (lo' := [some (.ref 6), some (.retAddr k), some (.int (nI f))]) (S' := [.ref 6, .int (nI l.length)]) (h' := h) rfl ?_
    refine qg_getf (v := .ref fr) rfl c1 rfl rfl rfl ?_
    refine qg_alen rfl c3 ?_
    refine qg_icmp false rfl (qc_geF hlt (by omega)) rfl ?_
    refine qg_pls (n := 1) (k' := 29) (lo' := [some (.ref 6), some (.retAddr k), some (.int (nI f))]) (S' := [.ref 6]) (h' := h) rfl ?_
    refine qg_getf (v := .int (nI l.length)) rfl c1 rfl rfl rfl ?_
    refine qg_pls (n := 1) (k' := 31) (lo' := [some (.ref 6), some (.retAddr k), some (.int (nI f))]) (S' := [.ref 6, .int (nI l.length)]) (h' := h) rfl ?_
    refine qg_getf (v := .ref to) rfl c1 rfl rfl rfl ?_
    refine qg_alen rfl c4 ?_
    refine qg_icmp false rfl (qc_geF hlt (by omega)) rfl ?_
    refine qg_pls (n := 1) (k' := 35) (lo' := [some (.ref 6), some (.retAddr k), some (.int (nI f))]) (S' := [.ref 6]) (h' := h) rfl ?_
    refine qg_getf (v := .ref so) rfl c1 rfl rfl rfl ?_
    refine qg_pls (n := 1) (k' := 37) (lo' := [some (.ref 6), some (.retAddr k), some (.int (nI f))]) (S' := [.ref 6, .ref so]) (h' := h) rfl ?_
    refine qg_getf (v := .int (nI l.length)) rfl c1 rfl rfl rfl ?_
    refine qg_pls (n := 1) (k' := 39) (lo' := [some (.ref 6), some (.retAddr k), some (.int (nI f))]) (S' := [.retAddr k, .int (nI l.length), .ref so]) (h' := h) rfl ?_
    refine qg_aast rfl c2 (qZ_en hk) rfl hlt (by omega) ?_
    show qg L xs _ qm_29 40 [some (.ref 6), some (.retAddr k), some (.int (nI f))] [] (h.1.set so (ai_refs "QueryReader$Sort" n (va_up g l.length (.retAddr k))), h.2) _
    refine qg_pls (n := 1) (k' := 41) (lo' := [some (.ref 6), some (.retAddr k), some (.int (nI f))]) (S' := [.ref 6]) (h' := (h.1.set so (ai_refs "QueryReader$Sort" n (va_up g l.length (.retAddr k))), h.2)) rfl ?_
    refine qg_getf (v := .ref fr) rfl a1 rfl rfl rfl ?_
    refine qg_pls (n := 1) (k' := 43) (lo' := [some (.ref 6), some (.retAddr k), some (.int (nI f))]) (S' := [.ref 6, .ref fr]) (h' := (h.1.set so (ai_refs "QueryReader$Sort" n (va_up g l.length (.retAddr k))), h.2)) rfl ?_
    refine qg_getf (v := .int (nI l.length)) rfl a1 rfl rfl rfl ?_
    refine qg_pls (n := 1) (k' := 45) (lo' := [some (.ref 6), some (.retAddr k), some (.int (nI f))]) (S' := [.int (nI f), .int (nI l.length), .ref fr]) (h' := (h.1.set so (ai_refs "QueryReader$Sort" n (va_up g l.length (.retAddr k))), h.2)) rfl ?_
    refine qg_ast rfl (fun _ _ _ => rfl) a3 (by omega) (by omega) ?_
    show qg L xs _ qm_29 46 [some (.ref 6), some (.retAddr k), some (.int (nI f))] [] ((h.1.set so (ai_refs "QueryReader$Sort" n (va_up g l.length (.retAddr k)))).set fr (ai_num .int n (upd f1 l.length (nI f))), h.2) _
    refine qg_pls (n := 1) (k' := 47) (lo' := [some (.ref 6), some (.retAddr k), some (.int (nI f))]) (S' := [.ref 6]) (h' := ((h.1.set so (ai_refs "QueryReader$Sort" n (va_up g l.length (.retAddr k)))).set fr (ai_num .int n (upd f1 l.length (nI f))), h.2)) rfl ?_
    refine qg_getf (v := .ref to) rfl b1 rfl rfl rfl ?_
    refine qg_pls (n := 1) (k' := 49) (lo' := [some (.ref 6), some (.retAddr k), some (.int (nI f))]) (S' := [.ref 6, .ref to]) (h' := ((h.1.set so (ai_refs "QueryReader$Sort" n (va_up g l.length (.retAddr k)))).set fr (ai_num .int n (upd f1 l.length (nI f))), h.2)) rfl ?_
    refine qg_getf (v := .int (nI l.length)) rfl b1 rfl rfl rfl ?_
    refine qg_pls (n := 1) (k' := 51) (lo' := [some (.ref 6), some (.retAddr k), some (.int (nI f))]) (S' := [.ref 6, .int (nI l.length), .ref to]) (h' := ((h.1.set so (ai_refs "QueryReader$Sort" n (va_up g l.length (.retAddr k)))).set fr (ai_num .int n (upd f1 l.length (nI f))), h.2)) rfl ?_
    refine qg_getf (v := .int (nI z)) rfl b1 rfl rfl rfl ?_
    refine qg_ast rfl (fun _ _ _ => rfl) b4 (by omega) (by omega) ?_
    show qg L xs _ qm_29 53 [some (.ref 6), some (.retAddr k), some (.int (nI f))] [] (((h.1.set so (ai_refs "QueryReader$Sort" n (va_up g l.length (.retAddr k)))).set fr (ai_num .int n (upd f1 l.length (nI f)))).set to (ai_num .int n (upd f2 l.length (nI z))), h.2) _
    refine qg_pls (n := 2) (k' := 55) (lo' := [some (.ref 6), some (.retAddr k), some (.int (nI f))]) (S' := [.ref 6, .ref 6]) (h' := (((h.1.set so (ai_refs "QueryReader$Sort" n (va_up g l.length (.retAddr k)))).set fr (ai_num .int n (upd f1 l.length (nI f)))).set to (ai_num .int n (upd f2 l.length (nI z))), h.2)) rfl ?_
    refine qg_getf (v := .int (nI l.length)) rfl d1 rfl rfl rfl ?_
    refine qg_pls (n := 2) (k' := 58) (lo' := [some (.ref 6), some (.retAddr k), some (.int (nI f))]) (S' := [.int ((nI l.length) + 1), .ref 6]) (h' := (((h.1.set so (ai_refs "QueryReader$Sort" n (va_up g l.length (.retAddr k)))).set fr (ai_num .int n (upd f1 l.length (nI f)))).set to (ai_num .int n (upd f2 l.length (nI z))), h.2)) rfl ?_
    rw [show nI l.length + 1 = nI (l.length + 1) from nI_1 _]
    refine qg_putf rfl d1 rfl rfl (Nat.le_of_ble_eq_true rfl) rfl ?_
    exact hg
  · rw [List.length_append]
    exact q_set d1
  · exact q_stay (q_stay (q_stay (q_set c2) nsf.symm) nst.symm) n6s.symm
  · exact q_stay (q_stay (q_set a3) c5.symm) n6f.symm
  · exact q_stay (q_set b4) n6t.symm
  · rw [List.length_append]; exact hlt
  · rw [List.length_append] at hi
    have hi : i < l.length + 1 := hi
    unfold va_up upd
    by_cases he : i = l.length
    · rw [if_pos he, if_pos he, if_pos he, he, getD_app2]
      exact ⟨rfl, rfl, rfl⟩
    · rw [if_neg he, if_neg he, if_neg he, getD_app1 (by omega)]
      exact c8 i (by omega)
  · refine ⟨by simp, fun i i1 i2 i3 i4 i5 => ?_, Or.inl rfl, Or.inl rfl, Or.inl rfl, Nat.le_refl _, Nat.le_refl _, Nat.le_refl _⟩
    show ((((h.1.set so _).set fr _).set to _).set 6 _)[i]? = _
    rw [List.getElem?_set_ne (fun e => i1 e.symm), List.getElem?_set_ne (fun e => i4 e.symm), List.getElem?_set_ne (fun e => i3 e.symm), List.getElem?_set_ne (fun e => i2 e.symm)]
theorem va_cpy1 {α : Type} (g f : Nat → α) (j : Nat) : va_up (va_cpy g f 0 0 j) j (g j) = va_cpy g f 0 0 (j + 1) := by
  funext i
  unfold va_up va_cpy
  by_cases h1 : i = j
  · rw [if_pos h1, if_pos ⟨Nat.zero_le _, by omega⟩, h1, Nat.sub_zero, Nat.zero_add]
  · rw [if_neg h1]
    by_cases h2 : i < j
    · rw [if_pos ⟨Nat.zero_le _, by omega⟩, if_pos ⟨Nat.zero_le _, by omega⟩]
    · rw [if_neg (fun q => h2 (by omega)), if_neg (fun q => h1 (by omega))]
theorem va_cpy0 {α : Type} (g f : Nat → α) : va_cpy g f 0 0 0 = f := by
  funext i
  unfold va_cpy
  rw [if_neg (fun q => by omega)]
/-- the copying in Tokens.widen: from the j-th place on -/
theorem q_widenl {g : Nat → Value} {cn : Value} (c1 : h.1[6]? = some (ai_obj 4 [.ref so, .ref fr, .ref to, cn, rc])) (c2 : h.1[so]? = some (ai_refs "QueryReader$Sort" n g)) (hn : n < 131072) (hg : ∀ i, i < n → ∃ v, v < 104 ∧ g i = .retAddr v) {o : ai_O} (hz : qg L xs d qm_30 27 [some (.ref 6), some (.ref h.1.length), some (.int (nI n))] [] (h.1 ++ [ai_refs "QueryReader$Sort" (n * 2) (va_cpy g (fun _ => .null) 0 0 n)], h.2.1 + 1, h.2.2 + n * 2) o) : ∀ (m j : Nat), j + m = n → qg L xs d qm_30 9 [some (.ref 6), some (.ref h.1.length), some (.int (nI j))] [] (h.1 ++ [ai_refs "QueryReader$Sort" (n * 2) (va_cpy g (fun _ => .null) 0 0 j)], h.2.1 + 1, h.2.2 + n * 2) o := by
  intro m
  induction m with
  | zero =>
    intro j hj
    have e : j = n := by omega
    rw [e]
    refine qg_pls (n := 2) (k' := 11) (lo' := [some (.ref 6), some (.ref h.1.length), some (.int (nI n))]) (S' := [.ref 6, .int (nI n)]) (h' := (h.1 ++ [ai_refs "QueryReader$Sort" (n * 2) (va_cpy g (fun _ => .null) 0 0 n)], h.2.1 + 1, h.2.2 + n * 2)) rfl ?_
    refine qg_getf (v := .ref so) rfl (q_app c1) rfl rfl rfl ?_
    refine qg_alenq rfl (q_app c2) ?_
    refine qg_icmp true rfl (qc_geT (Nat.le_refl _) (by omega)) rfl ?_
    exact hz
  | succ m ih =>
    intro j hj
    obtain ⟨v, v1, v2⟩ := hg j (by omega)
    have hi := ih (j + 1) (by omega)
    refine qg_pls (n := 2) (k' := 11) (lo' := [some (.ref 6), some (.ref h.1.length), some (.int (nI j))]) (S' := [.ref 6, .int (nI j)]) (h' := (h.1 ++ [ai_refs "QueryReader$Sort" (n * 2) (va_cpy g (fun _ => .null) 0 0 j)], h.2.1 + 1, h.2.2 + n * 2)) rfl ?_
    refine qg_getf (v := .ref so) rfl (q_app c1) rfl rfl rfl ?_
    refine qg_alenq rfl (q_app c2) ?_
    refine qg_icmp false rfl (qc_geF (by omega) (by omega)) rfl ?_
    refine qg_pls (n := 2) (k' := 16) (lo' := [some (.ref 6), some (.ref h.1.length), some (.int (nI j))]) (S' := [.ref h.1.length, .int (nI j)]) (h' := (h.1 ++ [ai_refs "QueryReader$Sort" (n * 2) (va_cpy g (fun _ => .null) 0 0 j)], h.2.1 + 1, h.2.2 + n * 2)) rfl ?_
    refine qg_alenq rfl q_new ?_
    refine qg_icmp false rfl (qc_geF (by omega) (by omega)) rfl ?_
    refine qg_pls (n := 3) (k' := 21) (lo' := [some (.ref 6), some (.ref h.1.length), some (.int (nI j))]) (S' := [.ref 6, .int (nI j), .ref h.1.length]) (h' := (h.1 ++ [ai_refs "QueryReader$Sort" (n * 2) (va_cpy g (fun _ => .null) 0 0 j)], h.2.1 + 1, h.2.2 + n * 2)) rfl ?_
    refine qg_getf (v := .ref so) rfl (q_app c1) rfl rfl rfl ?_
    refine qg_pls (n := 1) (k' := 23) (lo' := [some (.ref 6), some (.ref h.1.length), some (.int (nI j))]) (S' := [.int (nI j), .ref so, .int (nI j), .ref h.1.length]) (h' := (h.1 ++ [ai_refs "QueryReader$Sort" (n * 2) (va_cpy g (fun _ => .null) 0 0 j)], h.2.1 + 1, h.2.2 + n * 2)) rfl ?_
    refine qg_aald rfl (q_app c2) (by omega) (by omega) (v2) ?_
    refine qg_aast rfl q_new (qZ_en v1) rfl (by omega) (by omega) ?_
    rw [q_newset, ← v2, va_cpy1]
    show qg L xs _ qm_30 25 [some (.ref 6), some (.ref h.1.length), some (.int (nI j))] [] (h.1 ++ [ai_refs "QueryReader$Sort" (n * 2) (va_cpy g (fun _ => .null) 0 0 (j + 1))], h.2.1 + 1, h.2.2 + n * 2) _
    refine qg_pls (n := 2) (k' := 9) (lo' := [some (.ref 6), some (.ref h.1.length), some (.int ((nI j) + 1))]) (S' := []) (h' := (h.1 ++ [ai_refs "QueryReader$Sort" (n * 2) (va_cpy g (fun _ => .null) 0 0 (j + 1))], h.2.1 + 1, h.2.2 + n * 2)) rfl ?_
    rw [nI_1]
    exact hi
/-- Tokens.widen -/
theorem q_widen (hq : qta h so fr to n rc l) (hn : n < 131072) (hfull : n ≤ l.length) (hb : ∀ i, i < l.length → (l.getD i (102, 0, 0)).1 < 104) : ∃ h' so' fr' to', qe L xs (d + 3) 30 [.ref 6] h (.inl none, h') ∧ qta h' so' fr' to' (n * 2) rc l ∧ qto h so fr to n h' so' fr' to' (n * 2) := by
  obtain ⟨g, f1, f2, c1, c2, c3, c4, c5, c6, ⟨e, c7, c9⟩, c8⟩ := hq
  have n6s : so ≠ 6 := q_ne c2 c1 (by intro e; cases e)
  have n6f : fr ≠ 6 := q_ne c3 c1 (by intro e; cases e)
  have n6t : to ≠ 6 := q_ne c4 c1 (by intro e; cases e)
  have he : e < 11 := by
    rcases Nat.lt_or_ge e 11 with q | q
    · exact q
    · have : e = 11 := by omega
      subst this
      omega
  have hl2 : n * 2 = 64 * 2 ^ (e + 1) := by rw [Nat.pow_succ]; omega
  have hl4 : 64 ≤ n := by
    have := Nat.one_le_two_pow (n := e)
    omega
  have l1 := q_lt c1
  have l2 := q_lt c2
  have l3 := q_lt c3
  have l4 := q_lt c4
  -- the heaps
  let hA : ai_H := (h.1 ++ [ai_refs "QueryReader$Sort" (n * 2) (va_cpy g (fun _ => .null) 0 0 n)], h.2.1 + 1, h.2.2 + n * 2)
  have A1 : hA.1[6]? = some (ai_obj 4 [.ref so, .ref fr, .ref to, .int (nI l.length), rc]) := q_app c1
  have A2 : hA.1[h.1.length]? = some (ai_refs "QueryReader$Sort" (n * 2) (va_cpy g (fun _ => .null) 0 0 n)) := q_new
  have A3 : hA.1[fr]? = some (ai_num .int n f1) := q_app c3
  have A4 : hA.1[to]? = some (ai_num .int n f2) := q_app c4
  let hB : ai_H := (hA.1.set 6 (ai_obj 4 [.ref h.1.length, .ref fr, .ref to, .int (nI l.length), rc]), hA.2)
  have B1 : hB.1[6]? = some (ai_obj 4 [.ref h.1.length, .ref fr, .ref to, .int (nI l.length), rc]) := q_set A1
  have B2 : hB.1[h.1.length]? = some (ai_refs "QueryReader$Sort" (n * 2) (va_cpy g (fun _ => .null) 0 0 n)) := q_stay A2 (by omega)
  have B3 : hB.1[fr]? = some (ai_num .int n f1) := q_stay A3 n6f.symm
  have B4 : hB.1[to]? = some (ai_num .int n f2) := q_stay A4 n6t.symm
  have BL : hB.1.length = h.1.length + 1 := by show (List.set _ _ _).length = _; rw [List.length_set]; exact List.length_append
  let hC : ai_H := (hB.1 ++ [ai_num .int (n * 2) (va_cpy f1 (fun _ => 0) 0 0 n)], hB.2.1 + 1, hB.2.2 + n * 2)
  have C1 : hC.1[6]? = some (ai_obj 4 [.ref h.1.length, .ref fr, .ref to, .int (nI l.length), rc]) := q_app B1
  have C2 : hC.1[h.1.length]? = some (ai_refs "QueryReader$Sort" (n * 2) (va_cpy g (fun _ => .null) 0 0 n)) := q_app B2
  have C3 : hC.1[hB.1.length]? = some (ai_num .int (n * 2) (va_cpy f1 (fun _ => 0) 0 0 n)) := q_new
  have C4 : hC.1[to]? = some (ai_num .int n f2) := q_app B4
  let hD : ai_H := (hC.1.set 6 (ai_obj 4 [.ref h.1.length, .ref hB.1.length, .ref to, .int (nI l.length), rc]), hC.2)
  have D1 : hD.1[6]? = some (ai_obj 4 [.ref h.1.length, .ref hB.1.length, .ref to, .int (nI l.length), rc]) := q_set C1
  have D2 : hD.1[h.1.length]? = some (ai_refs "QueryReader$Sort" (n * 2) (va_cpy g (fun _ => .null) 0 0 n)) := q_stay C2 (by omega)
  have D3 : hD.1[hB.1.length]? = some (ai_num .int (n * 2) (va_cpy f1 (fun _ => 0) 0 0 n)) := q_stay C3 (by omega)
  have D4 : hD.1[to]? = some (ai_num .int n f2) := q_stay C4 n6t.symm
  have DL : hD.1.length = h.1.length + 2 := by show (List.set _ _ _).length = _; rw [List.length_set, show hC.1.length = hB.1.length + 1 from List.length_append]; omega
  let hE : ai_H := (hD.1 ++ [ai_num .int (n * 2) (va_cpy f2 (fun _ => 0) 0 0 n)], hD.2.1 + 1, hD.2.2 + n * 2)
  have E1 : hE.1[6]? = some (ai_obj 4 [.ref h.1.length, .ref hB.1.length, .ref to, .int (nI l.length), rc]) := q_app D1
  have E2 : hE.1[h.1.length]? = some (ai_refs "QueryReader$Sort" (n * 2) (va_cpy g (fun _ => .null) 0 0 n)) := q_app D2
  have E3 : hE.1[hB.1.length]? = some (ai_num .int (n * 2) (va_cpy f1 (fun _ => 0) 0 0 n)) := q_app D3
  have E4 : hE.1[hD.1.length]? = some (ai_num .int (n * 2) (va_cpy f2 (fun _ => 0) 0 0 n)) := q_new
  let hF : ai_H := (hE.1.set 6 (ai_obj 4 [.ref h.1.length, .ref hB.1.length, .ref hD.1.length, .int (nI l.length), rc]), hE.2)
  refine ⟨hF, h.1.length, hB.1.length, hD.1.length, ?_, ⟨va_cpy g (fun _ => .null) 0 0 n, va_cpy f1 (fun _ => 0) 0 0 n, va_cpy f2 (fun _ => 0) 0 0 n, q_set E1, q_stay E2 (by omega), q_stay E3 (by omega), q_stay E4 (by omega), by omega, by omega, ⟨e + 1, by omega, hl2⟩, fun i hi => ?_⟩, ⟨?_, fun i i1 i2 i3 i4 i5 => ?_, Or.inr (Nat.le_refl _), Or.inr (by omega), Or.inr (by omega), by omega, ?_, ?_⟩⟩
  · skip
    refine qe_of (M := qm_30) rfl rfl ?_
    show qg L xs _ qm_30 0 [some (.ref 6), none, none] [] h _
    refine qg_pls (n := 1) (k' := 1) (lo' := [some (.ref 6), none, none]) (S' := [.ref 6]) (h' := h) rfl ?_
    refine qg_getf (v := .ref so) rfl c1 rfl rfl rfl ?_
    refine qg_alenq rfl c2 ?_
    refine qg_pls (n := 2) (k' := 5) (lo' := [some (.ref 6), none, none]) (S' := [.int ((nI n) * 2)]) (h' := h) rfl ?_
    rw [show nI n * 2 = nI (n * 2) from nI_2 n]
    refine qg_newq rfl (by omega) ?_
    show qg L xs _ qm_30 6 [some (.ref 6), none, none] [.ref h.1.length] (h.1 ++ [ai_refs "QueryReader$Sort" (n * 2) (fun _ => .null)], h.2.1 + 1, h.2.2 + n * 2) _
    refine qg_pls (n := 3) (k' := 9) (lo' := [some (.ref 6), some (.ref h.1.length), some (.int 0)]) (S' := []) (h' := (h.1 ++ [ai_refs "QueryReader$Sort" (n * 2) (fun _ => .null)], h.2.1 + 1, h.2.2 + n * 2)) rfl ?_
    rw [← va_cpy0 g (fun _ => Value.null)]
    refine q_widenl c1 c2 hn (fun i hi => ⟨_, hb i (by omega), (c8 i (by omega)).1⟩) ?_ n 0 (by omega)
    show qg L xs _ qm_30 27 [some (.ref 6), some (.ref h.1.length), some (.int (nI n))] [] hA _
    refine qg_pls (n := 2) (k' := 29) (lo' := [some (.ref 6), some (.ref h.1.length), some (.int (nI n))]) (S' := [.ref h.1.length, .ref 6]) (h' := hA) rfl ?_
    refine qg_putf rfl A1 rfl rfl (Nat.le_of_ble_eq_true rfl) rfl ?_
    show qg L xs _ qm_30 30 [some (.ref 6), some (.ref h.1.length), some (.int (nI n))] [] hB _
    refine qg_pls (n := 2) (k' := 32) (lo' := [some (.ref 6), some (.ref h.1.length), some (.int (nI n))]) (S' := [.ref 6, .ref 6]) (h' := hB) rfl ?_
    refine qg_getf (v := .ref fr) rfl B1 rfl rfl rfl ?_
    refine qg_pls (n := 1) (k' := 34) (lo' := [some (.ref 6), some (.ref h.1.length), some (.int (nI n))]) (S' := [.ref 6, .ref fr, .ref 6]) (h' := hB) rfl ?_
    refine qg_getf (v := .ref fr) rfl B1 rfl rfl rfl ?_
    refine qg_alen rfl B3 ?_
    refine qg_pls (n := 2) (k' := 38) (lo' := [some (.ref 6), some (.ref h.1.length), some (.int (nI n))]) (S' := [.int ((nI n) * 2), .ref fr, .ref 6]) (h' := hB) rfl ?_
    rw [show nI n * 2 = nI (n * 2) from nI_2 n]
    refine qg_call (v := some (.ref hB.1.length)) (h' := hC) (as := [.ref fr, .int (nI (n * 2))]) rfl rfl rfl rfl rfl rfl rfl rfl (q_copyI (d := d) B3 (by omega) (by omega)) ?_
    show qg L xs _ qm_30 39 [some (.ref 6), some (.ref h.1.length), some (.int (nI n))] [.ref hB.1.length, .ref 6] hC _
    refine qg_putf rfl C1 rfl rfl (Nat.le_of_ble_eq_true rfl) rfl ?_
    show qg L xs _ qm_30 40 [some (.ref 6), some (.ref h.1.length), some (.int (nI n))] [] hD _
    refine qg_pls (n := 2) (k' := 42) (lo' := [some (.ref 6), some (.ref h.1.length), some (.int (nI n))]) (S' := [.ref 6, .ref 6]) (h' := hD) rfl ?_
    refine qg_getf (v := .ref to) rfl D1 rfl rfl rfl ?_
    refine qg_pls (n := 1) (k' := 44) (lo' := [some (.ref 6), some (.ref h.1.length), some (.int (nI n))]) (S' := [.ref 6, .ref to, .ref 6]) (h' := hD) rfl ?_
    refine qg_getf (v := .ref to) rfl D1 rfl rfl rfl ?_
    refine qg_alen rfl D4 ?_
    refine qg_pls (n := 2) (k' := 48) (lo' := [some (.ref 6), some (.ref h.1.length), some (.int (nI n))]) (S' := [.int ((nI n) * 2), .ref to, .ref 6]) (h' := hD) rfl ?_
    rw [show nI n * 2 = nI (n * 2) from nI_2 n]
    refine qg_call (v := some (.ref hD.1.length)) (h' := hE) (as := [.ref to, .int (nI (n * 2))]) rfl rfl rfl rfl rfl rfl rfl rfl (q_copyI (d := d) D4 (by omega) (by omega)) ?_
    show qg L xs _ qm_30 49 [some (.ref 6), some (.ref h.1.length), some (.int (nI n))] [.ref hD.1.length, .ref 6] hE _
    refine qg_putf rfl E1 rfl rfl (Nat.le_of_ble_eq_true rfl) rfl ?_
    exact qg_ret7 rfl
  · have hk := c8 i hi
    unfold va_cpy
    rw [if_pos ⟨Nat.zero_le _, by omega⟩, if_pos ⟨Nat.zero_le _, by omega⟩, if_pos ⟨Nat.zero_le _, by omega⟩]
    simpa using hk
  · show _ ≤ (List.set _ _ _).length
    rw [List.length_set, show hE.1.length = hD.1.length + 1 from List.length_append]; omega
  · show (List.set hE.1 6 _)[i]? = _
    rw [List.getElem?_set_ne (fun e => i1 e.symm)]
    show (hD.1 ++ _)[i]? = _
    rw [List.getElem?_append_left (by omega)]
    show (List.set hC.1 6 _)[i]? = _
    rw [List.getElem?_set_ne (fun e => i1 e.symm)]
    show (hB.1 ++ _)[i]? = _
    rw [List.getElem?_append_left (by omega)]
    show (List.set hA.1 6 _)[i]? = _
    rw [List.getElem?_set_ne (fun e => i1 e.symm)]
    show (h.1 ++ _)[i]? = _
    rw [List.getElem?_append_left i5]
  · show 64 * (h.2.1 + 1 + 1 + 1) + 3 * n ≤ _
    omega
  · show h.2.2 + n * 2 + n * 2 + n * 2 + 6 * n ≤ _
    omega
end QSK
