/-! NUMBERS; OPERATORS THAT WAIT. (Printed by wip/whole/pp.py from wip/whole/src.) -/
section QPE
variable {L : Nat} {xs : Nat → Int32} {d : Nat} {h h' : ai_H} {e : zE} {Y : Nat → Option ai_C} {bc bs : Int} {P : zK} {s s' : zS} {pb len : Nat}
theorem z48 {x : Int32} (hx : zb x = x) : x &&& 255 = 48 ↔ x = 48 := by
  constructor
  · intro h
    rw [← zb_and hx, h]; rfl
  · intro h
    rw [h]; decide
/-- Grammar.number() -/
theorem qi_number (ht : qtk e Y) : qim L xs e Y bc bs (d + 5) 54 [.ref 1] 0 (znu e) := by
  have hlt := qtk_lt ht
  refine qim_of (M := qm_54) rfl rfl (fun P s h hc => ?_)
  show qsm L xs e Y bc bs _ qm_54 0 [some (.ref 1), none, none, none] [] h _ _ _
  have hb := qcs_bd hc
  have hsl := qtk_sl ht s.1
  have hby := qtk_by ht
  refine qsm_pls (n := 1) (k' := 1) (lo' := [some (.ref 1), none, none, none]) (S' := [.ref 1]) (h' := h) rfl ?_
  refine qsm_getf (v := .retAddr (ztk e s.1)) rfl (qcs_obj hc) rfl rfl rfl ?_
  refine qsm_pls (n := 1) (k' := 3) (lo' := [some (.ref 1), none, none, none]) (S' := [.retAddr 100, .retAddr (ztk e s.1)]) (h' := h) rfl ?_
  unfold znu zc
  by_cases h1 : ztk e s.1 = 100
  · rw [if_pos h1]
    obtain ⟨fs4, h4⟩ := qcs_plain hc
    obtain ⟨fs6, h6⟩ := qtk_tok ht (qcs_prot hc)
    obtain ⟨tb, tl, hy, htx⟩ := qtk_text ht (qcs_prot hc)
    have hle := qrow_le htx
    have tail : ∀ (z a j : Nat), a ≤ z → z ≤ e.2.length → qsm L xs e Y bc bs (d + 4) qm_54 40 [some (.ref 1), some (.int (nI z)), some (.int (nI a)), some (.int (nI j))] [] h 0 P (zq (zput ((e.2.drop a).take (z - a))) (zstep e) s) := by
      intro z a j haz hz
      refine qsm_pls (n := 1) (k' := 41) (lo' := [some (.ref 1), some (.int (nI z)), some (.int (nI a)), some (.int (nI j))]) (S' := [.ref 1]) (h' := h) rfl ?_
      refine qsm_getf (v := .ref 4) rfl (qcs_obj hc) rfl rfl rfl ?_
      refine qsm_pls (n := 1) (k' := 43) (lo' := [some (.ref 1), some (.int (nI z)), some (.int (nI a)), some (.int (nI j))]) (S' := [.ref 1, .ref 4]) (h' := h) rfl ?_
      refine qsm_getf (v := .ref 2) rfl (qcs_obj hc) rfl rfl rfl ?_
      refine qsm_pls (n := 2) (k' := 46) (lo' := [some (.ref 1), some (.int (nI z)), some (.int (nI a)), some (.int (nI j))]) (S' := [.int (nI z), .int (nI a), .ref 2, .ref 4]) (h' := h) rfl ?_
      refine qsm_call hc (qi_copied ht haz hz) rfl rfl rfl rfl rfl rfl rfl rfl (ai_rcv1 rfl rfl h4) (fun v1 s1 h1 f1 hc1 => ?_)
      show qsm L xs e Y bc bs _ qm_54 47 [some (.ref 1), some (.int (nI z)), some (.int (nI a)), some (.int (nI j))] [] h1 _ _ _
      refine qsm_pls (n := 1) (k' := 48) (lo' := [some (.ref 1), some (.int (nI z)), some (.int (nI a)), some (.int (nI j))]) (S' := [.ref 1]) (h' := h1) rfl ?_
      refine qsm_callL hc1 (qi_step ht) rfl rfl rfl rfl rfl rfl rfl rfl (ai_rcv1 rfl rfl (qcs_obj hc1)) (fun v2 s2 h2 f2 hc2 => ?_)
      show qsm L xs e Y bc bs _ qm_54 49 [some (.ref 1), some (.int (nI z)), some (.int (nI a)), some (.int (nI j))] [] h2 _ _ _
      exact qsm_ret7 hc2 rfl
    have loop : ∀ (z : Nat), z ≤ e.2.length → ∀ (m a : Nat), z - a = m → a ≤ z → qsm L xs e Y bc bs (d + 4) qm_54 23 [some (.ref 1), some (.int (nI z)), some (.int (nI a)), some (.int (nI a))] [] h 0 P (zq (zput (znz ((e.2.drop a).take (z - a)))) (zstep e) s) := by
      intro z hz m
      induction m with
      | zero =>
        intro a hm haz
        have e1 : z - a = 0 := hm
        have tl := tail z a a haz hz
        rw [e1, List.take_zero] at tl ⊢
        have haz : a = z := by omega
        subst haz
        refine qsm_pls (n := 4) (k' := 27) (lo' := [some (.ref 1), some (.int (nI a)), some (.int (nI a)), some (.int (nI a))]) (S' := [.int ((nI a) - 1), .int (nI a)]) (h' := h) rfl ?_
        rcases Nat.eq_zero_or_pos a with h0 | h0
        · subst h0
          refine qsm_icmp true rfl (by decide) rfl ?_
          exact tl
        · rw [show nI a - 1 = nI (a - 1) from nI_sub (b := 1) (by omega)]
          refine qsm_icmp true rfl (qc_geT (by omega) (by omega)) rfl ?_
          exact tl
      | succ m ih =>
        intro a hm haz
        have tl := tail z a a haz hz
        refine qsm_pls (n := 4) (k' := 27) (lo' := [some (.ref 1), some (.int (nI z)), some (.int (nI a)), some (.int (nI a))]) (S' := [.int ((nI z) - 1), .int (nI a)]) (h' := h) rfl ?_
        rw [show nI z - 1 = nI (z - 1) from nI_sub (b := 1) (by omega)]
        rw [take_drop_cons (x := 0) (by omega) hz] at tl ⊢
        have hxb : zb (e.2.getD a 0) = e.2.getD a 0 := hby _ (by
          rw [List.getD_eq_getElem?_getD, List.getElem?_eq_getElem (by omega)]
          exact List.getElem_mem _)
        by_cases hend : z - 1 ≤ a
        · rw [show z - (a + 1) = 0 by omega, List.take_zero] at tl ⊢
          rw [show znz [e.2.getD a 0] = [e.2.getD a 0] from if_neg (fun h => h.2 rfl)]
          refine qsm_icmp true rfl (qc_geT (by omega) (by omega)) rfl ?_
          exact tl
        · skip
          refine qsm_icmp false rfl (qc_geF (by omega) (by omega)) rfl ?_
          refine qsm_pls (n := 1) (k' := 29) (lo' := [some (.ref 1), some (.int (nI z)), some (.int (nI a)), some (.int (nI a))]) (S' := [.ref 1]) (h' := h) rfl ?_
          refine qsm_getf (v := .ref 2) rfl (qcs_obj hc) rfl rfl rfl ?_
          refine qsm_pls (n := 1) (k' := 31) (lo' := [some (.ref 1), some (.int (nI z)), some (.int (nI a)), some (.int (nI a))]) (S' := [.int (nI a), .ref 2]) (h' := h) rfl ?_
          refine qsm_ask (q_at htx (by omega)) rfl rfl rfl rfl rfl rfl rfl (ai_rcv1 rfl rfl (qrow_obj htx)) ?_
          show qsm L xs e Y bc bs _ qm_54 32 [some (.ref 1), some (.int (nI z)), some (.int (nI a)), some (.int (nI a))] [.int (zat e.2 a)] h _ _ _
          rw [zat_lt (by omega)]
          refine qsm_pls (n := 1) (k' := 33) (lo' := [some (.ref 1), some (.int (nI z)), some (.int (nI a)), some (.int (nI a))]) (S' := [.int 48, .int (e.2.getD a 0 &&& 255)]) (h' := h) rfl ?_
          have hne : ((e.2.drop (a + 1)).take (z - (a + 1))) ≠ [] := by
            intro h0
            have := congrArg List.length h0
            rw [List.length_take, List.length_drop] at this
            simp at this
            omega
          by_cases h48 : e.2.getD a 0 = 48
          · rw [show znz (e.2.getD a 0 :: (e.2.drop (a + 1)).take (z - (a + 1))) = znz ((e.2.drop (a + 1)).take (z - (a + 1))) from if_pos ⟨h48, hne⟩]
            refine qsm_icmp false rfl (by rw [(z48 hxb).mpr h48]; decide) rfl ?_
            refine qsm_pls (n := 6) (k' := 23) (lo' := [some (.ref 1), some (.int (nI z)), some (.int ((nI a) + 1)), some (.int ((nI a) + 1))]) (S' := []) (h' := h) rfl ?_
            rw [nI_1]
            exact ih (a + 1) (by omega) (by omega)
          · rw [show znz (e.2.getD a 0 :: (e.2.drop (a + 1)).take (z - (a + 1))) = e.2.getD a 0 :: (e.2.drop (a + 1)).take (z - (a + 1)) from if_neg (fun h => h48 h.1)]
            refine qsm_icmp true rfl (by show (!decide (e.2.getD a 0 &&& 255 = 48)) = true; rw [decide_eq_false (fun h => h48 ((z48 hxb).mp h))]; rfl) rfl ?_
            exact tl
    refine qsm_acmp true rfl (qzk (hlt _) (by decide)) (qa_eqT h1) rfl ?_
    refine qsm_pls (n := 1) (k' := 10) (lo' := [some (.ref 1), none, none, none]) (S' := [.ref 1]) (h' := h) rfl ?_
    refine qsm_getf (v := .ref 6) rfl (qcs_obj hc) rfl rfl rfl ?_
    refine qsm_pls (n := 1) (k' := 12) (lo' := [some (.ref 1), none, none, none]) (S' := [.ref 1, .ref 6]) (h' := h) rfl ?_
    refine qsm_getf (v := .int (nI s.1)) rfl (qcs_obj hc) rfl rfl rfl ?_
    refine qsm_ask (q_to ht (qcs_prot hc) (by omega)) rfl rfl rfl rfl rfl rfl rfl (ai_rcv1 rfl rfl h6) ?_
    show qsm L xs e Y bc bs _ qm_54 14 [some (.ref 1), none, none, none] [.int (nI (zto e s.1))] h _ _ _
    refine qsm_pls (n := 2) (k' := 16) (lo' := [some (.ref 1), some (.int (nI (zto e s.1))), none, none]) (S' := [.ref 1]) (h' := h) rfl ?_
    refine qsm_getf (v := .ref 6) rfl (qcs_obj hc) rfl rfl rfl ?_
    refine qsm_pls (n := 1) (k' := 18) (lo' := [some (.ref 1), some (.int (nI (zto e s.1))), none, none]) (S' := [.ref 1, .ref 6]) (h' := h) rfl ?_
    refine qsm_getf (v := .int (nI s.1)) rfl (qcs_obj hc) rfl rfl rfl ?_
    refine qsm_ask (q_from ht (qcs_prot hc) (by omega)) rfl rfl rfl rfl rfl rfl rfl (ai_rcv1 rfl rfl h6) ?_
    show qsm L xs e Y bc bs _ qm_54 20 [some (.ref 1), some (.int (nI (zto e s.1))), none, none] [.int (nI (zfr e s.1))] h _ _ _
    refine qsm_pls (n := 3) (k' := 23) (lo' := [some (.ref 1), some (.int (nI (zto e s.1))), some (.int (nI (zfr e s.1))), some (.int (nI (zfr e s.1)))]) (S' := []) (h' := h) rfl ?_
    exact loop _ hsl.2 _ _ rfl hsl.1
  · rw [if_neg h1]
    refine qsm_acmp false rfl (qzk (hlt _) (by decide)) (qa_eqF h1) rfl ?_
    exact qsm_throw hc rfl rfl rfl
theorem q_psize (hc : qcs e Y bc bs P s h) : qe L xs (d + 1) 9 [.ref 4] h (.inl (some (.int (nI s.2.2.2.2.length))), h) := by
  obtain ⟨pb, len, hr⟩ := qcs_row hc
  exact q_size hr
/-- Grammar.push(st, ma) -/
theorem q_push {st ma : Nat} (hc : qcs e Y bc bs P s h) (hw : s.2.2.2.1 < 300) (hma : ma ≤ 8) (hst : st < 2 ^ 31) : ∃ h', qe L xs (d + 1) 57 [.ref 1, .int (nI st), .int (nI ma)] h (.inl none, h') ∧ qcs e Y bc bs ((st, ma) :: P) (s.1, s.2.1, s.2.2.1, s.2.2.2.1 + 1, s.2.2.2.2) h' := by
  obtain ⟨pb, len, fm, fs, c1, c2, c3, c4, c5, c6, c7, ⟨y1, y2, y3, y4, y5⟩, c9, c10⟩ := hc
  have c1' : h.1[1]? = some (ai_obj 1 [.ref 2, .ref 4, .ref 6, .int (nI s.1), .retAddr (ztk e s.1), .int (nI s.2.1), .int (nI s.2.2.1), .ref 10, .ref 11, .int (nI P.length)]) := c1
  obtain ⟨f, r1, r2, r3, r4, r5⟩ := c2
  have n1 : 1 ≠ pb := q_ne c1 r2 (by intro e; cases e)
  have n10 : 10 ≠ pb := q_ne c3 r2 (by intro e; cases e)
  have n11 : 11 ≠ pb := q_ne c4 r2 (by intro e; cases e)
  refine ⟨(((h.1.set 11 (ai_num .int 300 (upd fs P.length (nI st)))).set 10 (ai_num .int 300 (upd fm P.length (nI ma)))).set 1 (qgo e (P.length + 1) s), h.2), ?_, pb, len, upd fm P.length (nI ma), upd fs P.length (nI st), ?_, ⟨f, ?_, ?_, r3, r4, r5⟩, ?_, ?_, ?_, ?_, ?_, ⟨y1, y2, y3, y4, y5⟩, c9, c10⟩
  · skip
    refine qe_of (M := qm_57) rfl rfl ?_
    show qg L xs _ qm_57 0 [some (.ref 1), some (.int (nI st)), some (.int (nI ma))] [] h _
    refine qg_pls (n := 1) (k' := 1) (lo' := [some (.ref 1), some (.int (nI st)), some (.int (nI ma))]) (S' := [.ref 1]) (h' := h) rfl ?_
    refine qg_getf (v := .int (nI P.length)) rfl c1' rfl rfl rfl ?_
    refine qg_if false rfl (qc_lt0 (by omega)) rfl ?_
    refine qg_pls (n := 1) (k' := 4) (lo' := [some (.ref 1), some (.int (nI st)), some (.int (nI ma))]) (S' := [.ref 1]) (h' := h) rfl ?_
    refine qg_getf (v := .int (nI P.length)) rfl c1' rfl rfl rfl ?_
    refine qg_pls (n := 1) (k' := 6) (lo' := [some (.ref 1), some (.int (nI st)), some (.int (nI ma))]) (S' := [.ref 1, .int (nI P.length)]) (h' := h) rfl ?_
    refine qg_getf (v := .ref 10) rfl c1' rfl rfl rfl ?_
    refine qg_alen rfl c3 ?_
    refine qg_icmp false rfl (qc_geF (by omega) (by decide)) rfl ?_
    refine qg_pls (n := 1) (k' := 10) (lo' := [some (.ref 1), some (.int (nI st)), some (.int (nI ma))]) (S' := [.ref 1]) (h' := h) rfl ?_
    refine qg_getf (v := .int (nI P.length)) rfl c1' rfl rfl rfl ?_
    refine qg_pls (n := 1) (k' := 12) (lo' := [some (.ref 1), some (.int (nI st)), some (.int (nI ma))]) (S' := [.ref 1, .int (nI P.length)]) (h' := h) rfl ?_
    refine qg_getf (v := .ref 11) rfl c1' rfl rfl rfl ?_
    refine qg_alen rfl c4 ?_
    refine qg_icmp true rfl (qc_ltT (by omega) (by decide)) rfl ?_
    refine qg_pls (n := 1) (k' := 21) (lo' := [some (.ref 1), some (.int (nI st)), some (.int (nI ma))]) (S' := [.ref 1]) (h' := h) rfl ?_
    refine qg_getf (v := .ref 11) rfl c1' rfl rfl rfl ?_
    refine qg_pls (n := 1) (k' := 23) (lo' := [some (.ref 1), some (.int (nI st)), some (.int (nI ma))]) (S' := [.ref 1, .ref 11]) (h' := h) rfl ?_
    refine qg_getf (v := .int (nI P.length)) rfl c1' rfl rfl rfl ?_
    refine qg_pls (n := 1) (k' := 25) (lo' := [some (.ref 1), some (.int (nI st)), some (.int (nI ma))]) (S' := [.int (nI st), .int (nI P.length), .ref 11]) (h' := h) rfl ?_
    refine qg_ast rfl (fun _ _ _ => rfl) c4 (by omega) (by decide) ?_
    show qg L xs _ qm_57 26 [some (.ref 1), some (.int (nI st)), some (.int (nI ma))] [] (h.1.set 11 (ai_num .int 300 (upd fs P.length (nI st))), h.2) _
    refine qg_pls (n := 1) (k' := 27) (lo' := [some (.ref 1), some (.int (nI st)), some (.int (nI ma))]) (S' := [.ref 1]) (h' := (h.1.set 11 (ai_num .int 300 (upd fs P.length (nI st))), h.2)) rfl ?_
    refine qg_getf (v := .ref 10) rfl (q_stay c1' (by decide)) rfl rfl rfl ?_
    refine qg_pls (n := 1) (k' := 29) (lo' := [some (.ref 1), some (.int (nI st)), some (.int (nI ma))]) (S' := [.ref 1, .ref 10]) (h' := (h.1.set 11 (ai_num .int 300 (upd fs P.length (nI st))), h.2)) rfl ?_
    refine qg_getf (v := .int (nI P.length)) rfl (q_stay c1' (by decide)) rfl rfl rfl ?_
    refine qg_pls (n := 1) (k' := 31) (lo' := [some (.ref 1), some (.int (nI st)), some (.int (nI ma))]) (S' := [.int (nI ma), .int (nI P.length), .ref 10]) (h' := (h.1.set 11 (ai_num .int 300 (upd fs P.length (nI st))), h.2)) rfl ?_
    refine qg_ast rfl (fun _ _ _ => rfl) (q_stay c3 (by decide)) (by omega) (by decide) ?_
    show qg L xs _ qm_57 32 [some (.ref 1), some (.int (nI st)), some (.int (nI ma))] [] ((h.1.set 11 (ai_num .int 300 (upd fs P.length (nI st)))).set 10 (ai_num .int 300 (upd fm P.length (nI ma))), h.2) _
    refine qg_pls (n := 2) (k' := 34) (lo' := [some (.ref 1), some (.int (nI st)), some (.int (nI ma))]) (S' := [.ref 1, .ref 1]) (h' := ((h.1.set 11 (ai_num .int 300 (upd fs P.length (nI st)))).set 10 (ai_num .int 300 (upd fm P.length (nI ma))), h.2)) rfl ?_
    refine qg_getf (v := .int (nI P.length)) rfl (q_stay (q_stay c1' (by decide)) (by decide)) rfl rfl rfl ?_
    refine qg_pls (n := 2) (k' := 37) (lo' := [some (.ref 1), some (.int (nI st)), some (.int (nI ma))]) (S' := [.int ((nI P.length) + 1), .ref 1]) (h' := ((h.1.set 11 (ai_num .int 300 (upd fs P.length (nI st)))).set 10 (ai_num .int 300 (upd fm P.length (nI ma))), h.2)) rfl ?_
    rw [nI_1]
    refine qg_putf rfl (q_stay (q_stay c1' (by decide)) (by decide)) rfl rfl (Nat.le_of_ble_eq_true rfl) rfl ?_
    exact qg_ret7 rfl
  · exact q_set (q_stay (q_stay c1 (by decide)) (by decide))
  · exact q_stay (q_stay (q_stay r1 (by decide)) (by decide)) (by decide)
  · exact q_stay (q_stay (q_stay r2 n11) n10) n1
  · exact q_stay (q_set (q_stay c3 (by decide))) (by decide)
  · exact q_stay (q_stay (q_set c4) (by decide)) (by decide)
  · intro i q hi
    rw [List.reverse_cons] at hi
    have hl : P.reverse.length = P.length := List.length_reverse
    unfold upd
    by_cases he : i = P.length
    · rw [he, List.getElem?_append_right (by omega), hl, Nat.sub_self] at hi
      cases hi
      rw [if_pos he, if_pos he]
      exact ⟨rfl, rfl, hma, hst⟩
    · have hil : i < P.reverse.length := by
        have := (List.getElem?_eq_some_iff.mp hi).1
        rw [List.length_append, hl] at this
        have : i < P.length + 1 := this
        omega
      rw [List.getElem?_append_left hil] at hi
      rw [if_neg he, if_neg he]
      exact c5 i q hi
  · show P.length + 1 ≤ s.2.2.2.1 + 1 ∧ _
    exact ⟨by omega, c6.2.1, c6.2.2.1, c6.2.2.2.1, by show s.2.2.2.1 + 1 ≤ 300; omega⟩
  · exact fun i c hi => q_stay (q_stay (q_stay (c7 i c hi) (fun e => by rw [← e, y4] at hi; cases hi)) (fun e => by rw [← e, y3] at hi; cases hi)) (fun e => by rw [← e, y1] at hi; cases hi)
/-- the topmost waiting operator -/
theorem q_peek {q : Nat × Nat} {p : zK} (hc : qcs e Y bc bs (q :: p) s h) : ∃ fm fs, h.1[10]? = some (ai_num .int 300 fm) ∧ h.1[11]? = some (ai_num .int 300 fs) ∧ fm p.length = nI q.2 ∧ fs p.length = nI q.1 ∧ q.2 ≤ 8 ∧ q.1 < 2 ^ 31 := by
  obtain ⟨pb, len, fm, fs, c1, c2, c3, c4, c5, c6, c7, c8⟩ := hc
  have hi : (q :: p).reverse[p.length]? = some q := by
    rw [List.reverse_cons, List.getElem?_append_right (by rw [List.length_reverse]; exact Nat.le_refl _), List.length_reverse, Nat.sub_self]
    rfl
  obtain ⟨a1, a2, a3, a4⟩ := c5 _ _ hi
  exact ⟨fm, fs, c3, c4, a1, a2, a3, a4⟩
/-- is an operator waiting above the floor that binds no looser? -/
def zabove (nx : Nat) (p : zK) : Nat := match p with
  | [] => 0
  | q :: _ => if nx ≤ q.2 then 1 else 0
/-- Grammar.isPendingAbove(floor, next) -/
theorem q_above {p P0 : zK} {nx : Nat} (hc : qcs e Y bc bs (p ++ P0) s h) (hnx : nx ≤ 8) : qe L xs (d + 1) 75 [.ref 1, .int (nI P0.length), .int (nI nx)] h (.inl (some (.int (nI (zabove nx p)))), h) := by
  have hb := qcs_bd hc
  rw [List.length_append] at hb
  obtain ⟨pb, len, fm0, fs0, -, -, c3, c4, -⟩ := id hc
  have ho := qcs_obj hc
  rw [List.length_append] at ho
  refine qe_of (M := qm_75) rfl rfl ?_
  show qg L xs _ qm_75 0 [some (.ref 1), some (.int (nI P0.length)), some (.int (nI nx))] [] h _
  refine qg_pls (n := 1) (k' := 1) (lo' := [some (.ref 1), some (.int (nI P0.length)), some (.int (nI nx))]) (S' := [.ref 1]) (h' := h) rfl ?_
  refine qg_getf (v := .int (nI (p.length + P0.length))) rfl ho rfl rfl rfl ?_
  refine qg_pls (n := 1) (k' := 3) (lo' := [some (.ref 1), some (.int (nI P0.length)), some (.int (nI nx))]) (S' := [.int (nI P0.length), .int (nI (p.length + P0.length))]) (h' := h) rfl ?_
  match p, hc, hb, ho with
  | [], hc, hb, ho =>
    refine qg_icmp true rfl (qc_leT (by simp) (by simp at hb ⊢; omega)) rfl ?_
    refine qg_pls (n := 1) (k' := 31) (lo' := [some (.ref 1), some (.int (nI P0.length)), some (.int (nI nx))]) (S' := [.int 0]) (h' := h) rfl ?_
    exact qg_ret5 rfl rfl rfl
  | q :: p, hc, hb, ho =>
    obtain ⟨fm, fs, d3, d4, d5, d6, d7, d8⟩ := q_peek (p := p ++ P0) hc
    rw [c3] at d3
    cases d3
    have hl : (q :: p).length = p.length + 1 := rfl
    refine qg_icmp false rfl (qc_leF (by omega) (by omega)) rfl ?_
    refine qg_pls (n := 1) (k' := 5) (lo' := [some (.ref 1), some (.int (nI P0.length)), some (.int (nI nx))]) (S' := [.ref 1]) (h' := h) rfl ?_
    refine qg_getf (v := .int (nI ((q :: p).length + P0.length))) rfl ho rfl rfl rfl ?_
    refine qg_if false rfl (qc_leF (b := 0) (by omega) (by omega)) rfl ?_
    refine qg_pls (n := 1) (k' := 8) (lo' := [some (.ref 1), some (.int (nI P0.length)), some (.int (nI nx))]) (S' := [.ref 1]) (h' := h) rfl ?_
    refine qg_getf (v := .int (nI ((q :: p).length + P0.length))) rfl ho rfl rfl rfl ?_
    refine qg_pls (n := 1) (k' := 10) (lo' := [some (.ref 1), some (.int (nI P0.length)), some (.int (nI nx))]) (S' := [.ref 1, .int (nI ((q :: p).length + P0.length))]) (h' := h) rfl ?_
    refine qg_getf (v := .ref 10) rfl ho rfl rfl rfl ?_
    refine qg_alen rfl c3 ?_
    refine qg_icmp false rfl (qc_gtF (by omega) (by decide)) rfl ?_
    refine qg_pls (n := 1) (k' := 14) (lo' := [some (.ref 1), some (.int (nI P0.length)), some (.int (nI nx))]) (S' := [.ref 1]) (h' := h) rfl ?_
    refine qg_getf (v := .int (nI ((q :: p).length + P0.length))) rfl ho rfl rfl rfl ?_
    refine qg_pls (n := 1) (k' := 16) (lo' := [some (.ref 1), some (.int (nI P0.length)), some (.int (nI nx))]) (S' := [.ref 1, .int (nI ((q :: p).length + P0.length))]) (h' := h) rfl ?_
    refine qg_getf (v := .ref 11) rfl ho rfl rfl rfl ?_
    refine qg_alen rfl c4 ?_
    refine qg_icmp false rfl (qc_gtF (by omega) (by decide)) rfl ?_
    refine qg_pls (n := 1) (k' := 20) (lo' := [some (.ref 1), some (.int (nI P0.length)), some (.int (nI nx))]) (S' := [.ref 1]) (h' := h) rfl ?_
    refine qg_getf (v := .ref 10) rfl ho rfl rfl rfl ?_
    refine qg_pls (n := 1) (k' := 22) (lo' := [some (.ref 1), some (.int (nI P0.length)), some (.int (nI nx))]) (S' := [.ref 1, .ref 10]) (h' := h) rfl ?_
    refine qg_getf (v := .int (nI ((q :: p).length + P0.length))) rfl ho rfl rfl rfl ?_
    refine qg_pls (n := 2) (k' := 25) (lo' := [some (.ref 1), some (.int (nI P0.length)), some (.int (nI nx))]) (S' := [.int ((nI ((q :: p).length + P0.length)) - 1), .ref 10]) (h' := h) rfl ?_
    rw [show nI ((q :: p).length + P0.length) - 1 = nI (p ++ P0).length from by rw [show nI ((q :: p).length + P0.length) - 1 = _ from nI_sub (b := 1) (by omega), List.length_append, hl]; congr 1; omega]
    refine qg_ald rfl (fun _ _ _ => rfl) c3 (by rw [List.length_append]; omega) (by decide) ?_
    refine qg_pls (n := 1) (k' := 27) (lo' := [some (.ref 1), some (.int (nI P0.length)), some (.int (nI nx))]) (S' := [.int (nI nx), .int (fm0 (p ++ P0).length)]) (h' := h) rfl ?_
    rw [d5]
    unfold zabove
    dsimp only
    by_cases hnq : nx ≤ q.2
    · rw [if_pos hnq]
      refine qg_icmp false rfl (qc_ltF hnq (by omega)) rfl ?_
      refine qg_pls (n := 2) (k' := 31) (lo' := [some (.ref 1), some (.int (nI P0.length)), some (.int (nI nx))]) (S' := [.int 1]) (h' := h) rfl ?_
      exact qg_ret5 rfl rfl rfl
    · rw [if_neg hnq]
      refine qg_icmp true rfl (qc_ltT (by omega) (by omega)) rfl ?_
      refine qg_pls (n := 1) (k' := 31) (lo' := [some (.ref 1), some (.int (nI P0.length)), some (.int (nI nx))]) (S' := [.int 0]) (h' := h) rfl ?_
      exact qg_ret5 rfl rfl rfl
end QPE
