/-! THE CLASS'S SMALL METHODS OVER TOKENS. (Printed by wip/whole/pp.py from wip/whole/src.) -/
section QPR
variable {L : Nat} {xs : Nat → Int32} {d : Nat} {h h' : ai_H} {e : zE} {Y : Nat → Option ai_C} {bc bs : Int} {P : zK} {s s' : zS} {pb len : Nat}
theorem ztk_out {i : Nat} (hi : e.1.length ≤ i) : ztk e i = 102 ∧ zfr e i = 0 ∧ zto e i = 0 := by
  unfold ztk zfr zto
  rw [List.getD_eq_getElem?_getD, List.getElem?_eq_none hi]
  exact ⟨rfl, rfl, rfl⟩
/-- Tokens.sort(i) -/
theorem q_sort (ht : qtk e Y) (hp : ∀ i c, Y i = some c → h.1[i]? = some c) {i : Nat} (hi : i < 2 ^ 31) : qe L xs (d + 1) 33 [.ref 6, .int (nI i)] h (.inl (some (.retAddr (ztk e i))), h) := by
  obtain ⟨tb, tl, so, fr, to, n1, n2, n3, rc, tf, f1, f2, g, t1, t2, t3, t4, t5, t6, t7, t8, t9, ⟨l1, l2, l3, l4, l5, l6⟩, t11, -⟩ := ht
  refine qe_of (M := qm_33) rfl rfl ?_
  show qg L xs _ qm_33 0 [some (.ref 6), some (.int (nI i)), none] [] h _
  refine qg_pls (n := 1) (k' := 1) (lo' := [some (.ref 6), some (.int (nI i)), none]) (S' := [.int (nI i)]) (h' := h) rfl ?_
  refine qg_if false rfl (qc_lt0 hi) rfl ?_
  refine qg_pls (n := 2) (k' := 4) (lo' := [some (.ref 6), some (.int (nI i)), none]) (S' := [.ref 6, .int (nI i)]) (h' := h) rfl ?_
  refine qg_getf (v := .int (nI e.1.length)) rfl (hp _ _ t6) rfl rfl rfl ?_
  by_cases hlt : i < e.1.length
  · skip
    refine qg_icmp false rfl (qc_geF hlt (by omega)) rfl ?_
    refine qg_pls (n := 2) (k' := 8) (lo' := [some (.ref 6), some (.int (nI i)), none]) (S' := [.ref 6, .int (nI i)]) (h' := h) rfl ?_
    refine qg_getf (v := .ref so) rfl (hp _ _ t6) rfl rfl rfl ?_
    refine qg_alenq rfl (hp _ _ t7) ?_
    refine qg_icmp false rfl (qc_geF (by omega) (by omega)) rfl ?_
    refine qg_pls (n := 1) (k' := 12) (lo' := [some (.ref 6), some (.int (nI i)), none]) (S' := [.ref 6]) (h' := h) rfl ?_
    refine qg_getf (v := .ref so) rfl (hp _ _ t6) rfl rfl rfl ?_
    refine qg_pls (n := 1) (k' := 14) (lo' := [some (.ref 6), some (.int (nI i)), none]) (S' := [.int (nI i), .ref so]) (h' := h) rfl ?_
    refine qg_aald rfl (hp _ _ t7) (by omega) (by omega) ((t11 i hlt).1) ?_
    refine qg_pls (n := 5) (k' := 23) (lo' := [some (.ref 6), some (.int (nI i)), some (.retAddr (ztk e i))]) (S' := [.retAddr (ztk e i)]) (h' := h) rfl ?_
    exact qg_ret6 rfl rfl
  · rw [(ztk_out (e := e) (by omega)).1]
    refine qg_icmp true rfl (qc_geT (by omega) (by omega)) rfl ?_
    refine qg_pls (n := 5) (k' := 23) (lo' := [some (.ref 6), some (.int (nI i)), some (.retAddr 102)]) (S' := [.retAddr 102]) (h' := h) rfl ?_
    exact qg_ret6 rfl rfl
/-- Tokens.from(i) -/
theorem q_from (ht : qtk e Y) (hp : ∀ i c, Y i = some c → h.1[i]? = some c) {i : Nat} (hi : i < 2 ^ 31) : qe L xs (d + 1) 46 [.ref 6, .int (nI i)] h (.inl (some (.int (nI (zfr e i)))), h) := by
  obtain ⟨tb, tl, so, fr, to, n1, n2, n3, rc, tf, f1, f2, g, t1, t2, t3, t4, t5, t6, t7, t8, t9, ⟨l1, l2, l3, l4, l5, l6⟩, t11, -⟩ := ht
  refine qe_of (M := qm_46) rfl rfl ?_
  show qg L xs _ qm_46 0 [some (.ref 6), some (.int (nI i))] [] h _
  refine qg_pls (n := 1) (k' := 1) (lo' := [some (.ref 6), some (.int (nI i))]) (S' := [.int (nI i)]) (h' := h) rfl ?_
  refine qg_if false rfl (qc_lt0 hi) rfl ?_
  refine qg_pls (n := 2) (k' := 4) (lo' := [some (.ref 6), some (.int (nI i))]) (S' := [.ref 6, .int (nI i)]) (h' := h) rfl ?_
  refine qg_getf (v := .int (nI e.1.length)) rfl (hp _ _ t6) rfl rfl rfl ?_
  by_cases hlt : i < e.1.length
  · rw [← (t11 i hlt).2.1]
    refine qg_icmp false rfl (qc_geF hlt (by omega)) rfl ?_
    refine qg_pls (n := 2) (k' := 8) (lo' := [some (.ref 6), some (.int (nI i))]) (S' := [.ref 6, .int (nI i)]) (h' := h) rfl ?_
    refine qg_getf (v := .ref fr) rfl (hp _ _ t6) rfl rfl rfl ?_
    refine qg_alen rfl (hp _ _ t8) ?_
    refine qg_icmp false rfl (qc_geF (by omega) (by omega)) rfl ?_
    refine qg_pls (n := 1) (k' := 12) (lo' := [some (.ref 6), some (.int (nI i))]) (S' := [.ref 6]) (h' := h) rfl ?_
    refine qg_getf (v := .ref fr) rfl (hp _ _ t6) rfl rfl rfl ?_
    refine qg_pls (n := 1) (k' := 14) (lo' := [some (.ref 6), some (.int (nI i))]) (S' := [.int (nI i), .ref fr]) (h' := h) rfl ?_
    refine qg_ald rfl (fun _ _ _ => rfl) (hp _ _ t8) (by omega) (by omega) ?_
    refine qg_pls (n := 1) (k' := 17) (lo' := [some (.ref 6), some (.int (nI i))]) (S' := [.int (f1 i)]) (h' := h) rfl ?_
    exact qg_ret5 rfl rfl rfl
  · rw [(ztk_out (e := e) (i := i) (by omega)).2.1]
    refine qg_icmp true rfl (qc_geT (by omega) (by omega)) rfl ?_
    refine qg_pls (n := 1) (k' := 17) (lo' := [some (.ref 6), some (.int (nI i))]) (S' := [.int 0]) (h' := h) rfl ?_
    exact qg_ret5 rfl rfl rfl
/-- Tokens.to(i) -/
theorem q_to (ht : qtk e Y) (hp : ∀ i c, Y i = some c → h.1[i]? = some c) {i : Nat} (hi : i < 2 ^ 31) : qe L xs (d + 1) 47 [.ref 6, .int (nI i)] h (.inl (some (.int (nI (zto e i)))), h) := by
  obtain ⟨tb, tl, so, fr, to, n1, n2, n3, rc, tf, f1, f2, g, t1, t2, t3, t4, t5, t6, t7, t8, t9, ⟨l1, l2, l3, l4, l5, l6⟩, t11, -⟩ := ht
  refine qe_of (M := qm_47) rfl rfl ?_
  show qg L xs _ qm_47 0 [some (.ref 6), some (.int (nI i))] [] h _
  refine qg_pls (n := 1) (k' := 1) (lo' := [some (.ref 6), some (.int (nI i))]) (S' := [.int (nI i)]) (h' := h) rfl ?_
  refine qg_if false rfl (qc_lt0 hi) rfl ?_
  refine qg_pls (n := 2) (k' := 4) (lo' := [some (.ref 6), some (.int (nI i))]) (S' := [.ref 6, .int (nI i)]) (h' := h) rfl ?_
  refine qg_getf (v := .int (nI e.1.length)) rfl (hp _ _ t6) rfl rfl rfl ?_
  by_cases hlt : i < e.1.length
  · rw [← (t11 i hlt).2.2]
    refine qg_icmp false rfl (qc_geF hlt (by omega)) rfl ?_
    refine qg_pls (n := 2) (k' := 8) (lo' := [some (.ref 6), some (.int (nI i))]) (S' := [.ref 6, .int (nI i)]) (h' := h) rfl ?_
    refine qg_getf (v := .ref to) rfl (hp _ _ t6) rfl rfl rfl ?_
    refine qg_alen rfl (hp _ _ t9) ?_
    refine qg_icmp false rfl (qc_geF (by omega) (by omega)) rfl ?_
    refine qg_pls (n := 1) (k' := 12) (lo' := [some (.ref 6), some (.int (nI i))]) (S' := [.ref 6]) (h' := h) rfl ?_
    refine qg_getf (v := .ref to) rfl (hp _ _ t6) rfl rfl rfl ?_
    refine qg_pls (n := 1) (k' := 14) (lo' := [some (.ref 6), some (.int (nI i))]) (S' := [.int (nI i), .ref to]) (h' := h) rfl ?_
    refine qg_ald rfl (fun _ _ _ => rfl) (hp _ _ t9) (by omega) (by omega) ?_
    refine qg_pls (n := 1) (k' := 17) (lo' := [some (.ref 6), some (.int (nI i))]) (S' := [.int (f2 i)]) (h' := h) rfl ?_
    exact qg_ret5 rfl rfl rfl
  · rw [(ztk_out (e := e) (i := i) (by omega)).2.2]
    refine qg_icmp true rfl (qc_geT (by omega) (by omega)) rfl ?_
    refine qg_pls (n := 1) (k' := 17) (lo' := [some (.ref 6), some (.int (nI i))]) (S' := [.int 0]) (h' := h) rfl ?_
    exact qg_ret5 rfl rfl rfl
/-- Math.max -/
theorem q_max {a b : Nat} (ha : a < 2 ^ 31) (hb : b < 2 ^ 31) : qe L xs (d + 1) 43 [.int (nI a), .int (nI b)] h (.inl (some (.int (nI (max a b)))), h) := by
  refine qe_of (M := qm_43) rfl rfl ?_
  show qg L xs _ qm_43 0 [some (.int (nI a)), some (.int (nI b))] [] h _
  refine qg_pls (n := 2) (k' := 2) (lo' := [some (.int (nI a)), some (.int (nI b))]) (S' := [.int (nI b), .int (nI a)]) (h' := h) rfl ?_
  rcases Nat.lt_or_ge a b with hab | hab
  · rw [Nat.max_eq_right (by omega)]
    refine qg_icmp true rfl (qc_ltT hab hb) rfl ?_
    refine qg_pls (n := 1) (k' := 6) (lo' := [some (.int (nI a)), some (.int (nI b))]) (S' := [.int (nI b)]) (h' := h) rfl ?_
    exact qg_ret5 rfl rfl rfl
  · rw [Nat.max_eq_left hab]
    refine qg_icmp false rfl (qc_ltF hab ha) rfl ?_
    refine qg_pls (n := 2) (k' := 6) (lo' := [some (.int (nI a)), some (.int (nI b))]) (S' := [.int (nI a)]) (h' := h) rfl ?_
    exact qg_ret5 rfl rfl rfl
/-- Grammar.rise() -/
theorem qi_rise : qim L xs e Y bc bs (d + 2) 42 [.ref 1] 0 zrise := by
  intro P s h v s' hc hf
  have hb := qcs_bd hc
  unfold zrise at hf
  split at hf
  · cases hf
    refine ⟨_, ?_, P, qcs_thrown hc⟩
    refine qe_of (M := qm_42) rfl rfl ?_
    show qg L xs _ qm_42 0 [some (.ref 1)] [] h _
    refine qg_pls (n := 1) (k' := 1) (lo' := [some (.ref 1)]) (S' := [.ref 1]) (h' := h) rfl ?_
    refine qg_getf (v := .int (nI s.2.1)) rfl (qcs_obj hc) rfl rfl rfl ?_
    refine qg_pls (n := 1) (k' := 3) (lo' := [some (.ref 1)]) (S' := [.int 40, .int (nI s.2.1)]) (h' := h) rfl ?_
    refine qg_icmp false rfl (qc_ltF (b := 40) (by omega) (by omega)) rfl ?_
    exact qg_throw rfl rfl rfl
  · cases hf
    rename_i hlt
    obtain ⟨pb, len, h0⟩ := id hc
    have h9 := qcs0_set (s' := (s.1, s.2.1 + 1, max s.2.2.1 (s.2.1 + 1), s.2.2.2)) h0 rfl ⟨hb.2.1, (by show s.2.1 + 1 ≤ 40; omega), (by show max s.2.2.1 (s.2.1 + 1) ≤ 40; omega)⟩
    refine ⟨(h.1.set 1 (qgo e P.length (s.1, s.2.1 + 1, max s.2.2.1 (s.2.1 + 1), s.2.2.2)), h.2), ?_, pb, len, h9⟩
    refine qe_of (M := qm_42) rfl rfl ?_
    show qg L xs _ qm_42 0 [some (.ref 1)] [] h _
    refine qg_pls (n := 1) (k' := 1) (lo' := [some (.ref 1)]) (S' := [.ref 1]) (h' := h) rfl ?_
    refine qg_getf (v := .int (nI s.2.1)) rfl (qcs_obj hc) rfl rfl rfl ?_
    refine qg_pls (n := 1) (k' := 3) (lo' := [some (.ref 1)]) (S' := [.int 40, .int (nI s.2.1)]) (h' := h) rfl ?_
    refine qg_icmp true rfl (qc_ltT (b := 40) (by omega) (by omega)) rfl ?_
    refine qg_pls (n := 2) (k' := 11) (lo' := [some (.ref 1)]) (S' := [.ref 1, .ref 1]) (h' := h) rfl ?_
    refine qg_getf (v := .int (nI s.2.1)) rfl (qcs_obj hc) rfl rfl rfl ?_
    refine qg_pls (n := 2) (k' := 14) (lo' := [some (.ref 1)]) (S' := [.int ((nI s.2.1) + 1), .ref 1]) (h' := h) rfl ?_
    rw [nI_1]
    refine qg_putf rfl (qcs_obj hc) rfl rfl (Nat.le_of_ble_eq_true rfl) rfl ?_
    refine qg_pls (n := 2) (k' := 17) (lo' := [some (.ref 1)]) (S' := [.ref 1, .ref 1]) (h' := (h.1.set 1 (ai_obj 1 [.ref 2, .ref 4, .ref 6, .int (nI s.1), .retAddr (ztk e s.1), .int (nI (s.2.1 + 1)), .int (nI s.2.2.1), .ref 10, .ref 11, .int (nI P.length)]), h.2)) rfl ?_
    refine qg_getf (v := .int (nI s.2.2.1)) rfl (q_set (qcs_obj hc)) rfl rfl rfl ?_
    refine qg_pls (n := 1) (k' := 19) (lo' := [some (.ref 1)]) (S' := [.ref 1, .int (nI s.2.2.1), .ref 1]) (h' := (h.1.set 1 (ai_obj 1 [.ref 2, .ref 4, .ref 6, .int (nI s.1), .retAddr (ztk e s.1), .int (nI (s.2.1 + 1)), .int (nI s.2.2.1), .ref 10, .ref 11, .int (nI P.length)]), h.2)) rfl ?_
    refine qg_getf (v := .int (nI (s.2.1 + 1))) rfl (q_set (qcs_obj hc)) rfl rfl rfl ?_
    refine qg_call (v := some (.int (nI (max s.2.2.1 (s.2.1 + 1))))) (h' := (h.1.set 1 (ai_obj 1 [.ref 2, .ref 4, .ref 6, .int (nI s.1), .retAddr (ztk e s.1), .int (nI (s.2.1 + 1)), .int (nI s.2.2.1), .ref 10, .ref 11, .int (nI P.length)]), h.2)) (as := [.int (nI s.2.2.1), .int (nI (s.2.1 + 1))]) rfl rfl rfl rfl rfl rfl rfl rfl (q_max (by omega) (by omega)) ?_
    show qg L xs _ qm_42 21 [some (.ref 1)] [.int (nI (max s.2.2.1 (s.2.1 + 1))), .ref 1] (h.1.set 1 (ai_obj 1 [.ref 2, .ref 4, .ref 6, .int (nI s.1), .retAddr (ztk e s.1), .int (nI (s.2.1 + 1)), .int (nI s.2.2.1), .ref 10, .ref 11, .int (nI P.length)]), h.2) _
    refine qg_putf rfl (q_set (qcs_obj hc)) rfl rfl (Nat.le_of_ble_eq_true rfl) rfl ?_
    rw [List.set_set]
    exact qg_ret7 rfl
theorem qa_eqT {x y : Nat} (h : x = y) : ai_ac .eq (decide (x = y)) = true := decide_eq_true h
theorem qa_eqF {x y : Nat} (h : ¬ x = y) : ai_ac .eq (decide (x = y)) = false := decide_eq_false h
theorem qa_neT {x y : Nat} (h : ¬ x = y) : ai_ac .ne (decide (x = y)) = true := by
  show (!decide (x = y)) = true
  rw [decide_eq_false h]; rfl
theorem qa_neF {x y : Nat} (h : x = y) : ai_ac .ne (decide (x = y)) = false := by
  show (!decide (x = y)) = false
  rw [decide_eq_true h]; rfl
theorem zbd_id (r : zR Nat) : zbd r (fun v s => some (some v, s)) = r := by
  unfold zbd
  split
  · rfl
  · rfl
  · rfl
theorem qsm_callL {M : ai_M} {k : Nat} {lo : ai_L} {S : List Value} {md mdc : Nat} {f : zP} {pc len n mi : Nat} {i : Instr} {rs : List Int} {nm : String} {as S0 : List Value} (hc : qcs e Y bc bs P s h) (him : qim L xs e Y bc bs d mi as mdc f) (hk : (ai_Mc M)[k]? = some (pc, i, len, 1, rs, nm)) (hmi : (ai_nth (1, rs, nm) 0).toNat = mi) (hn : (ai_nth (1, rs, nm) 1).toNat = n) (has : (S.take n).reverse = as) (hS0 : S.drop n = S0) (hw : Nat.ble (ai_wt S0) 8 = true) (hle : Nat.ble n S.length = true) (hx : ai_catch (ai_Mh M) k = none) (hrc : ai_rcv (qr_Z L xs) (1, rs, nm) as.head? h = true)
    (hs : ∀ v s1 h1, f s = some (some v, s1) → qcs e Y bc bs P s1 h1 → qsm L xs e Y bc bs d M (k + 1) lo (if mdc = 0 then S0 else .int (nI v) :: S0) h1 md P (some (some v, s1))) : qsm L xs e Y bc bs d M k lo S h md P (f s) := by
  rw [← zbd_id (f s)]
  exact qsm_call hc him hk hmi hn has hS0 hw hle hx hrc hs
theorem qtk_lt (ht : qtk e Y) (i : Nat) : ztk e i < 104 := by
  obtain ⟨tb, tl, so, fr, to, n1, n2, n3, rc, tf, f1, f2, g, t1, t2, t3, t4, t5, t6, t7, t8, t9, t10, t11, t12, -⟩ := ht
  exact t12 i
theorem qtk_sl (ht : qtk e Y) (i : Nat) : zfr e i ≤ zto e i ∧ zto e i ≤ e.2.length := by
  obtain ⟨tb, tl, so, fr, to, n1, n2, n3, rc, tf, f1, f2, g, t1, t2, t3, t4, t5, t6, t7, t8, t9, t10, t11, t12, t13, -⟩ := ht
  exact t13 i
theorem qtk_by (ht : qtk e Y) : ∀ x ∈ e.2, zb x = x := by
  obtain ⟨tb, tl, so, fr, to, n1, n2, n3, rc, tf, f1, f2, g, t1, t2, t3, t4, t5, t6, t7, t8, t9, t10, t11, t12, t13, t14⟩ := ht
  exact t14
theorem qtk_text (ht : qtk e Y) (hp : ∀ i c, Y i = some c → h.1[i]? = some c) : ∃ tb tl, Y tb ≠ none ∧ qrow h 2 tb tl e.2 := by
  obtain ⟨tb, tl, so, fr, to, n1, n2, n3, rc, tf, f1, f2, g, t1, t2, t3, t4, t5, t6, t7, t8, t9, t10, t11, t12, t13, t14⟩ := ht
  exact ⟨tb, tl, by rw [t2]; exact Option.some_ne_none _, tf, hp _ _ t1, hp _ _ t2, t3, t4, t5⟩
theorem qtk_tok (ht : qtk e Y) (hp : ∀ i c, Y i = some c → h.1[i]? = some c) : ∃ fs, h.1[6]? = some (ai_obj 4 fs) := by
  obtain ⟨tb, tl, so, fr, to, n1, n2, n3, rc, tf, f1, f2, g, t1, t2, t3, t4, t5, t6, t7, t8, t9, t10, t11, t12, t13, t14⟩ := ht
  exact ⟨_, hp _ _ t6⟩
theorem qcs_prot1 (hc : qcs e Y bc bs P s h) {x : ai_C} : ∀ i c, Y i = some c → (h.1.set 1 x)[i]? = some c := by
  obtain ⟨pb, len, fm, fs, -, -, -, -, -, -, c7, ⟨y1, -⟩, -⟩ := hc
  exact fun i c hi => q_stay (c7 i c hi) (fun e => by rw [← e, y1] at hi; cases hi)
/-- the end of step() -/
theorem q_stepT (ht : qtk e Y) (hc : qcs e Y bc bs P s h) : qsm L xs e Y bc bs (d + 1) qm_41 25 [some (.ref 1)] [] h 0 P (znext s) := by
  intro v s' hr
  have hb := qcs_bd hc
  unfold znext at hr
  split at hr
  · cases hr
  · cases hr
    rename_i hlt
    obtain ⟨pb, len, h0⟩ := id hc
    have h9 := qcs0_set (s' := (s.1 + 1, s.2)) h0 rfl ⟨(by show s.1 + 1 ≤ 100000; omega), hb.2.2.1, hb.2.2.2.1⟩
    refine ⟨(h.1.set 1 (qgo e P.length (s.1 + 1, s.2)), h.2), ?_, pb, len, h9⟩
    obtain ⟨fs6, h6⟩ := qtk_tok (h := (h.1.set 1 (ai_obj 1 [.ref 2, .ref 4, .ref 6, .int (nI (s.1 + 1)), .retAddr (ztk e s.1), .int (nI s.2.1), .int (nI s.2.2.1), .ref 10, .ref 11, .int (nI P.length)]), h.2)) ht (qcs_prot1 hc)
    refine qg_pls (n := 2) (k' := 27) (lo' := [some (.ref 1)]) (S' := [.ref 1, .ref 1]) (h' := h) rfl ?_
    refine qg_getf (v := .int (nI s.1)) rfl (qcs_obj hc) rfl rfl rfl ?_
    refine qg_pls (n := 2) (k' := 30) (lo' := [some (.ref 1)]) (S' := [.int ((nI s.1) + 1), .ref 1]) (h' := h) rfl ?_
    rw [nI_1]
    refine qg_putf rfl (qcs_obj hc) rfl rfl (Nat.le_of_ble_eq_true rfl) rfl ?_
    refine qg_pls (n := 2) (k' := 33) (lo' := [some (.ref 1)]) (S' := [.ref 1, .ref 1]) (h' := (h.1.set 1 (ai_obj 1 [.ref 2, .ref 4, .ref 6, .int (nI (s.1 + 1)), .retAddr (ztk e s.1), .int (nI s.2.1), .int (nI s.2.2.1), .ref 10, .ref 11, .int (nI P.length)]), h.2)) rfl ?_
    refine qg_getf (v := .ref 6) rfl (q_set (qcs_obj hc)) rfl rfl rfl ?_
    refine qg_pls (n := 1) (k' := 35) (lo' := [some (.ref 1)]) (S' := [.ref 1, .ref 6, .ref 1]) (h' := (h.1.set 1 (ai_obj 1 [.ref 2, .ref 4, .ref 6, .int (nI (s.1 + 1)), .retAddr (ztk e s.1), .int (nI s.2.1), .int (nI s.2.2.1), .ref 10, .ref 11, .int (nI P.length)]), h.2)) rfl ?_
    refine qg_getf (v := .int (nI (s.1 + 1))) rfl (q_set (qcs_obj hc)) rfl rfl rfl ?_
    refine qg_call (v := some (.retAddr (ztk e (s.1 + 1)))) (h' := (h.1.set 1 (ai_obj 1 [.ref 2, .ref 4, .ref 6, .int (nI (s.1 + 1)), .retAddr (ztk e s.1), .int (nI s.2.1), .int (nI s.2.2.1), .ref 10, .ref 11, .int (nI P.length)]), h.2)) (as := [.ref 6, .int (nI (s.1 + 1))]) rfl rfl rfl rfl rfl rfl rfl (ai_rcv1 rfl rfl h6) (q_sort ht (qcs_prot1 hc) (by omega)) ?_
    show qg L xs _ qm_41 37 [some (.ref 1)] [.retAddr (ztk e (s.1 + 1)), .ref 1] (h.1.set 1 (ai_obj 1 [.ref 2, .ref 4, .ref 6, .int (nI (s.1 + 1)), .retAddr (ztk e s.1), .int (nI s.2.1), .int (nI s.2.2.1), .ref 10, .ref 11, .int (nI P.length)]), h.2) _
    refine qg_putf rfl (q_set (qcs_obj hc)) rfl rfl (Nat.le_of_ble_eq_true rfl) rfl ?_
    rw [List.set_set]
    exact qg_ret7 rfl
/-- Grammar.step() -/
theorem qi_step (ht : qtk e Y) : qim L xs e Y bc bs (d + 3) 41 [.ref 1] 0 (zstep e) := by
  have hlt := qtk_lt ht
  refine qim_of (M := qm_41) rfl rfl (fun P s h hc => ?_)
  show qsm L xs e Y bc bs _ qm_41 0 [some (.ref 1)] [] h _ _ _
  have hb := qcs_bd hc
  unfold zstep
  refine qsm_pls (n := 1) (k' := 1) (lo' := [some (.ref 1)]) (S' := [.ref 1]) (h' := h) rfl ?_
  refine qsm_getf (v := .retAddr (ztk e s.1)) rfl (qcs_obj hc) rfl rfl rfl ?_
  refine qsm_pls (n := 1) (k' := 3) (lo' := [some (.ref 1)]) (S' := [.retAddr 82, .retAddr (ztk e s.1)]) (h' := h) rfl ?_
  by_cases h1 : ztk e s.1 = 82
  · rw [if_pos (Or.inl h1)]
    refine qsm_acmp true rfl (qzk (hlt _) (by decide)) (qa_eqT h1) rfl ?_
    refine qsm_pls (n := 1) (k' := 9) (lo' := [some (.ref 1)]) (S' := [.ref 1]) (h' := h) rfl ?_
    refine qsm_call hc (qi_rise) rfl rfl rfl rfl rfl rfl rfl rfl (ai_rcv1 rfl rfl (qcs_obj hc)) (fun v1 s1 h1 f1 hc1 => ?_)
    show qsm L xs e Y bc bs _ qm_41 10 [some (.ref 1)] [] h1 _ _ _
    refine qsm_pls (n := 1) (k' := 25) (lo' := [some (.ref 1)]) (S' := []) (h' := h1) rfl ?_
    exact q_stepT ht hc1
  · skip
    refine qsm_acmp false rfl (qzk (hlt _) (by decide)) (qa_eqF h1) rfl ?_
    refine qsm_pls (n := 1) (k' := 5) (lo' := [some (.ref 1)]) (S' := [.ref 1]) (h' := h) rfl ?_
    refine qsm_getf (v := .retAddr (ztk e s.1)) rfl (qcs_obj hc) rfl rfl rfl ?_
    refine qsm_pls (n := 1) (k' := 7) (lo' := [some (.ref 1)]) (S' := [.retAddr 10, .retAddr (ztk e s.1)]) (h' := h) rfl ?_
    by_cases h2 : ztk e s.1 = 10
    · rw [if_pos (Or.inr h2)]
      refine qsm_acmp false rfl (qzk (hlt _) (by decide)) (qa_neF h2) rfl ?_
      refine qsm_pls (n := 1) (k' := 9) (lo' := [some (.ref 1)]) (S' := [.ref 1]) (h' := h) rfl ?_
      refine qsm_call hc (qi_rise) rfl rfl rfl rfl rfl rfl rfl rfl (ai_rcv1 rfl rfl (qcs_obj hc)) (fun v1 s1 h1 f1 hc1 => ?_)
      show qsm L xs e Y bc bs _ qm_41 10 [some (.ref 1)] [] h1 _ _ _
      refine qsm_pls (n := 1) (k' := 25) (lo' := [some (.ref 1)]) (S' := []) (h' := h1) rfl ?_
      exact q_stepT ht hc1
    · rw [if_neg (fun h => h.elim h1 h2)]
      refine qsm_acmp true rfl (qzk (hlt _) (by decide)) (qa_neT h2) rfl ?_
      refine qsm_pls (n := 1) (k' := 12) (lo' := [some (.ref 1)]) (S' := [.ref 1]) (h' := h) rfl ?_
      refine qsm_getf (v := .retAddr (ztk e s.1)) rfl (qcs_obj hc) rfl rfl rfl ?_
      refine qsm_pls (n := 1) (k' := 14) (lo' := [some (.ref 1)]) (S' := [.retAddr 83, .retAddr (ztk e s.1)]) (h' := h) rfl ?_
      have down : ∀ (hd : ztk e s.1 = 83 ∨ ztk e s.1 = 25), qsm L xs e Y bc bs (d + 2) qm_41 19 [some (.ref 1)] [] h 0 P (zq zdown znext s) := by
        intro hd v s' hr
        unfold zq zdown at hr
        by_cases h0 : s.2.1 = 0
        · rw [if_pos h0] at hr; cases hr
        · rw [if_neg h0] at hr
          obtain ⟨pb, len, hc0⟩ := id hc
          have h9 : qcs e Y bc bs P (s.1, s.2.1 - 1, s.2.2) (h.1.set 1 (qgo e P.length (s.1, s.2.1 - 1, s.2.2)), h.2) := ⟨pb, len, qcs0_set hc0 rfl ⟨hb.2.1, (by show s.2.1 - 1 ≤ 40; omega), hb.2.2.2.1⟩⟩
          obtain ⟨h2, g1, g2⟩ := q_stepT (L := L) (xs := xs) (d := d + 1) ht h9 v s' hr
          refine ⟨h2, ?_, g2⟩
          refine qg_pls (n := 2) (k' := 21) (lo' := [some (.ref 1)]) (S' := [.ref 1, .ref 1]) (h' := h) rfl ?_
          refine qg_getf (v := .int (nI s.2.1)) rfl (qcs_obj hc) rfl rfl rfl ?_
          refine qg_pls (n := 2) (k' := 24) (lo' := [some (.ref 1)]) (S' := [.int ((nI s.2.1) - 1), .ref 1]) (h' := h) rfl ?_
          rw [show nI s.2.1 - 1 = nI (s.2.1 - 1) from nI_sub (b := 1) (by omega)]
          refine qg_putf rfl (qcs_obj hc) rfl rfl (Nat.le_of_ble_eq_true rfl) rfl ?_
          exact g1
      by_cases h3 : ztk e s.1 = 83
      · rw [if_pos (Or.inl h3)]
        refine qsm_acmp true rfl (qzk (hlt _) (by decide)) (qa_eqT h3) rfl ?_
        exact down (Or.inl h3)
      · skip
        refine qsm_acmp false rfl (qzk (hlt _) (by decide)) (qa_eqF h3) rfl ?_
        refine qsm_pls (n := 1) (k' := 16) (lo' := [some (.ref 1)]) (S' := [.ref 1]) (h' := h) rfl ?_
        refine qsm_getf (v := .retAddr (ztk e s.1)) rfl (qcs_obj hc) rfl rfl rfl ?_
        refine qsm_pls (n := 1) (k' := 18) (lo' := [some (.ref 1)]) (S' := [.retAddr 25, .retAddr (ztk e s.1)]) (h' := h) rfl ?_
        by_cases h4 : ztk e s.1 = 25
        · rw [if_pos (Or.inr h4)]
          refine qsm_acmp false rfl (qzk (hlt _) (by decide)) (qa_neF h4) rfl ?_
          exact down (Or.inr h4)
        · rw [if_neg (fun h => h.elim h3 h4)]
          refine qsm_acmp true rfl (qzk (hlt _) (by decide)) (qa_neT h4) rfl ?_
          exact q_stepT ht hc
end QPR
