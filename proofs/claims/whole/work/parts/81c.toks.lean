/-! COPY, SKIP, NAMES, NUMBERS. (Printed by wip/whole/pp.py from wip/whole/src.) -/
section QTO
variable {L : Nat} {xs : Nat → Int32} {d : Nat} {h h' : ai_H} {e : zE} {Y : Nat → Option ai_C} {bc bs : Int} {P : zK} {s s' : zS} {pb len : Nat}
theorem qcs_plain (hc : qcs e Y bc bs P s h) : ∃ fs, h.1[4]? = some (ai_obj 3 fs) := by
  obtain ⟨pb, len, hr⟩ := qcs_row hc
  exact ⟨_, qrow_obj hr⟩
/-- plain.word(text c) -/
theorem qi_put {c : Nat} (c1 : 1000 ≤ c) (c2 : c < 1112) : qim L xs e Y bc bs (d + 5) 38 [.ref 4, .retAddr c] 0 (zput (zt c)) := by
  intro P s h v s' hc hf
  unfold zput at hf
  split at hf
  · cases hf
  · cases hf
    obtain ⟨pb, len, h0⟩ := hc
    obtain ⟨fm, fs, c1', hrow, -⟩ := id h0
    obtain ⟨h1, b1, len1, g1, g2, g3⟩ := q_word (L := L) (xs := xs) (d := d) c1 c2 hrow (by omega)
    exact ⟨h1, g1, b1, len1, qcs0_row h0 g3 g2⟩
theorem qi_copied (ht : qtk e Y) {a z : Nat} (haz : a ≤ z) (hz : z ≤ e.2.length) : qim L xs e Y bc bs (d + 4) 53 [.ref 4, .ref 2, .int (nI a), .int (nI z)] 0 (zput ((e.2.drop a).take (z - a))) := by
  intro P s h v s' hc hf
  have hl : ((e.2.drop a).take (z - a)).length = z - a := by rw [List.length_take, List.length_drop]; omega
  unfold zput at hf
  split at hf
  · cases hf
  · cases hf
    obtain ⟨tb, tl, hy, htx⟩ := qtk_text ht (qcs_prot hc)
    obtain ⟨pb, len, h0⟩ := hc
    obtain ⟨fm, fs, -, hrow, -, -, -, -, -, ⟨-, -, -, -, y5⟩, -⟩ := id h0
    obtain ⟨h1, b1, len1, g1, g2, g3⟩ := q_copied (L := L) (xs := xs) (d := d) (by decide) (qtk_by ht) hz haz hrow htx (fun e => by rw [e] at hy; exact hy y5) (by omega)
    exact ⟨h1, g1, b1, len1, qcs0_row h0 g3 g2⟩
theorem qi_small (ht : qtk e Y) {a z : Nat} (haz : a ≤ z) (hz : z ≤ e.2.length) : qim L xs e Y bc bs (d + 4) 48 [.ref 4, .ref 2, .int (nI a), .int (nI z)] 0 (zput (((e.2.drop a).take (z - a)).map zsm)) := by
  intro P s h v s' hc hf
  have hl : (((e.2.drop a).take (z - a)).map zsm).length = z - a := by rw [List.length_map, List.length_take, List.length_drop]; omega
  unfold zput at hf
  split at hf
  · cases hf
  · cases hf
    obtain ⟨tb, tl, hy, htx⟩ := qtk_text ht (qcs_prot hc)
    obtain ⟨pb, len, h0⟩ := hc
    obtain ⟨fm, fs, -, hrow, -, -, -, -, -, ⟨-, -, -, -, y5⟩, -⟩ := id h0
    obtain ⟨h1, b1, len1, g1, g2, g3⟩ := q_small (L := L) (xs := xs) (d := d) (by decide) hz haz hrow htx (fun e => by rw [e] at hy; exact hy y5) (by omega)
    exact ⟨h1, g1, b1, len1, qcs0_row h0 g3 g2⟩
set_option maxRecDepth 100000 in
theorem q_enr0 : (List.range 104).all (fun k => decide (1000 ≤ (qr_en.getD k (0, 0)).1 ∧ (qr_en.getD k (0, 0)).1 < 1112 ∧ nI (qr_en.getD k (0, 0)).2.toNatClampNeg = (qr_en.getD k (0, 0)).2 ∧ (qr_en.getD k (0, 0)).2.toNatClampNeg ≤ 8)) = true := by decide +kernel
theorem q_enr {k : Nat} (hk : k < 104) : 1000 ≤ (qr_en.getD k (0, 0)).1 ∧ (qr_en.getD k (0, 0)).1 < 1112 ∧ nI (qr_en.getD k (0, 0)).2.toNatClampNeg = (qr_en.getD k (0, 0)).2 ∧ (qr_en.getD k (0, 0)).2.toNatClampNeg ≤ 8 := of_decide_eq_true (List.all_eq_true.mp q_enr0 k (List.mem_range.mpr hk))
/-- Grammar.copy(k) -/
theorem qi_copy (ht : qtk e Y) {k : Nat} (hk : k < 104) : qim L xs e Y bc bs (d + 6) 37 [.ref 1, .retAddr k] 0 (zcp e k) := by
  have hlt := qtk_lt ht
  have hr := q_enr hk
  refine qim_of (M := qm_37) rfl rfl (fun P s h hc => ?_)
  show qsm L xs e Y bc bs _ qm_37 0 [some (.ref 1), some (.retAddr k)] [] h _ _ _
  refine qsm_pls (n := 1) (k' := 1) (lo' := [some (.ref 1), some (.retAddr k)]) (S' := [.ref 1]) (h' := h) rfl ?_
  refine qsm_getf (v := .retAddr (ztk e s.1)) rfl (qcs_obj hc) rfl rfl rfl ?_
  refine qsm_pls (n := 1) (k' := 3) (lo' := [some (.ref 1), some (.retAddr k)]) (S' := [.retAddr k, .retAddr (ztk e s.1)]) (h' := h) rfl ?_
  unfold zcp zc
  by_cases h1 : ztk e s.1 = k
  · rw [if_pos h1]
    obtain ⟨fs4, h4⟩ := qcs_plain hc
    refine qsm_acmp true rfl (qzk (hlt _) hk) (qa_eqT h1) rfl ?_
    refine qsm_pls (n := 1) (k' := 10) (lo' := [some (.ref 1), some (.retAddr k)]) (S' := [.ref 1]) (h' := h) rfl ?_
    refine qsm_getf (v := .ref 4) rfl (qcs_obj hc) rfl rfl rfl ?_
    refine qsm_pls (n := 1) (k' := 12) (lo' := [some (.ref 1), some (.retAddr k)]) (S' := [.retAddr k, .ref 4]) (h' := h) rfl ?_
    refine qsm_getf (v := .retAddr (qr_en.getD k (0, 0)).1) rfl (qZ_en hk) rfl rfl rfl ?_
    refine qsm_call hc (qi_put hr.1 hr.2.1) rfl rfl rfl rfl rfl rfl rfl rfl (ai_rcv1 rfl rfl h4) (fun v1 s1 h1 f1 hc1 => ?_)
    show qsm L xs e Y bc bs _ qm_37 14 [some (.ref 1), some (.retAddr k)] [] h1 _ _ _
    refine qsm_pls (n := 1) (k' := 15) (lo' := [some (.ref 1), some (.retAddr k)]) (S' := [.ref 1]) (h' := h1) rfl ?_
    refine qsm_callL hc1 (qi_step ht) rfl rfl rfl rfl rfl rfl rfl rfl (ai_rcv1 rfl rfl (qcs_obj hc1)) (fun v2 s2 h2 f2 hc2 => ?_)
    show qsm L xs e Y bc bs _ qm_37 16 [some (.ref 1), some (.retAddr k)] [] h2 _ _ _
    exact qsm_ret7 hc2 rfl
  · rw [if_neg h1]
    refine qsm_acmp false rfl (qzk (hlt _) hk) (qa_eqF h1) rfl ?_
    exact qsm_throw hc rfl rfl rfl
/-- Grammar.copyIf(k) -/
theorem qi_copyIf (ht : qtk e Y) {k : Nat} (hk : k < 104) : qim L xs e Y bc bs (d + 6) 50 [.ref 1, .retAddr k] 1 (zci e k) := by
  have hlt := qtk_lt ht
  have hr := q_enr hk
  refine qim_of (M := qm_50) rfl rfl (fun P s h hc => ?_)
  show qsm L xs e Y bc bs _ qm_50 0 [some (.ref 1), some (.retAddr k), none] [] h _ _ _
  refine qsm_pls (n := 1) (k' := 1) (lo' := [some (.ref 1), some (.retAddr k), none]) (S' := [.ref 1]) (h' := h) rfl ?_
  refine qsm_getf (v := .retAddr (ztk e s.1)) rfl (qcs_obj hc) rfl rfl rfl ?_
  refine qsm_pls (n := 1) (k' := 3) (lo' := [some (.ref 1), some (.retAddr k), none]) (S' := [.retAddr k, .retAddr (ztk e s.1)]) (h' := h) rfl ?_
  unfold zci zc
  by_cases h1 : ztk e s.1 = k
  · rw [if_pos h1]
    obtain ⟨fs4, h4⟩ := qcs_plain hc
    refine qsm_acmp false rfl (qzk (hlt _) hk) (qa_neF h1) rfl ?_
    refine qsm_pls (n := 4) (k' := 9) (lo' := [some (.ref 1), some (.retAddr k), some (.int 1)]) (S' := [.int 1]) (h' := h) rfl ?_
    refine qsm_if false rfl (rfl) rfl ?_
    refine qsm_pls (n := 1) (k' := 11) (lo' := [some (.ref 1), some (.retAddr k), some (.int 1)]) (S' := [.ref 1]) (h' := h) rfl ?_
    refine qsm_getf (v := .ref 4) rfl (qcs_obj hc) rfl rfl rfl ?_
    refine qsm_pls (n := 1) (k' := 13) (lo' := [some (.ref 1), some (.retAddr k), some (.int 1)]) (S' := [.retAddr k, .ref 4]) (h' := h) rfl ?_
    refine qsm_getf (v := .retAddr (qr_en.getD k (0, 0)).1) rfl (qZ_en hk) rfl rfl rfl ?_
    refine qsm_call hc (qi_put hr.1 hr.2.1) rfl rfl rfl rfl rfl rfl rfl rfl (ai_rcv1 rfl rfl h4) (fun v1 s1 h1 f1 hc1 => ?_)
    show qsm L xs e Y bc bs _ qm_50 15 [some (.ref 1), some (.retAddr k), some (.int 1)] [] h1 _ _ _
    refine qsm_pls (n := 1) (k' := 16) (lo' := [some (.ref 1), some (.retAddr k), some (.int 1)]) (S' := [.ref 1]) (h' := h1) rfl ?_
    refine qsm_call hc1 (qi_step ht) rfl rfl rfl rfl rfl rfl rfl rfl (ai_rcv1 rfl rfl (qcs_obj hc1)) (fun v2 s2 h2 f2 hc2 => ?_)
    show qsm L xs e Y bc bs _ qm_50 17 [some (.ref 1), some (.retAddr k), some (.int 1)] [] h2 _ _ _
    refine qsm_pls (n := 1) (k' := 18) (lo' := [some (.ref 1), some (.retAddr k), some (.int 1)]) (S' := [.int 1]) (h' := h2) rfl ?_
    exact qsm_ret5 (v := 1) hc2 rfl rfl rfl (by decide)
  · rw [if_neg h1]
    refine qsm_acmp true rfl (qzk (hlt _) hk) (qa_neT h1) rfl ?_
    refine qsm_pls (n := 3) (k' := 9) (lo' := [some (.ref 1), some (.retAddr k), some (.int 0)]) (S' := [.int 0]) (h' := h) rfl ?_
    refine qsm_if true rfl (rfl) rfl ?_
    refine qsm_pls (n := 1) (k' := 18) (lo' := [some (.ref 1), some (.retAddr k), some (.int 0)]) (S' := [.int 0]) (h' := h) rfl ?_
    exact qsm_ret5 (v := 0) hc rfl rfl rfl (by decide)
/-- Grammar.skip(k) -/
theorem qi_skip (ht : qtk e Y) {k : Nat} (hk : k < 104) : qim L xs e Y bc bs (d + 4) 61 [.ref 1, .retAddr k] 0 (zsk e k) := by
  have hlt := qtk_lt ht
  refine qim_of (M := qm_61) rfl rfl (fun P s h hc => ?_)
  show qsm L xs e Y bc bs _ qm_61 0 [some (.ref 1), some (.retAddr k)] [] h _ _ _
  refine qsm_pls (n := 1) (k' := 1) (lo' := [some (.ref 1), some (.retAddr k)]) (S' := [.ref 1]) (h' := h) rfl ?_
  refine qsm_getf (v := .retAddr (ztk e s.1)) rfl (qcs_obj hc) rfl rfl rfl ?_
  refine qsm_pls (n := 1) (k' := 3) (lo' := [some (.ref 1), some (.retAddr k)]) (S' := [.retAddr k, .retAddr (ztk e s.1)]) (h' := h) rfl ?_
  unfold zsk zc
  by_cases h1 : ztk e s.1 = k
  · rw [if_pos h1]
    refine qsm_acmp true rfl (qzk (hlt _) hk) (qa_eqT h1) rfl ?_
    refine qsm_pls (n := 1) (k' := 10) (lo' := [some (.ref 1), some (.retAddr k)]) (S' := [.ref 1]) (h' := h) rfl ?_
    refine qsm_callL hc (qi_step ht) rfl rfl rfl rfl rfl rfl rfl rfl (ai_rcv1 rfl rfl (qcs_obj hc)) (fun v1 s1 h1 f1 hc1 => ?_)
    show qsm L xs e Y bc bs _ qm_61 11 [some (.ref 1), some (.retAddr k)] [] h1 _ _ _
    exact qsm_ret7 hc1 rfl
  · rw [if_neg h1]
    refine qsm_acmp false rfl (qzk (hlt _) hk) (qa_eqF h1) rfl ?_
    exact qsm_throw hc rfl rfl rfl
/-- Grammar.skipIf(k) -/
theorem qi_skipIf (ht : qtk e Y) {k : Nat} (hk : k < 104) : qim L xs e Y bc bs (d + 4) 65 [.ref 1, .retAddr k] 1 (zsi e k) := by
  have hlt := qtk_lt ht
  refine qim_of (M := qm_65) rfl rfl (fun P s h hc => ?_)
  show qsm L xs e Y bc bs _ qm_65 0 [some (.ref 1), some (.retAddr k), none] [] h _ _ _
  refine qsm_pls (n := 1) (k' := 1) (lo' := [some (.ref 1), some (.retAddr k), none]) (S' := [.ref 1]) (h' := h) rfl ?_
  refine qsm_getf (v := .retAddr (ztk e s.1)) rfl (qcs_obj hc) rfl rfl rfl ?_
  refine qsm_pls (n := 1) (k' := 3) (lo' := [some (.ref 1), some (.retAddr k), none]) (S' := [.retAddr k, .retAddr (ztk e s.1)]) (h' := h) rfl ?_
  unfold zsi zc
  by_cases h1 : ztk e s.1 = k
  · rw [if_pos h1]
    refine qsm_acmp false rfl (qzk (hlt _) hk) (qa_neF h1) rfl ?_
    refine qsm_pls (n := 4) (k' := 9) (lo' := [some (.ref 1), some (.retAddr k), some (.int 1)]) (S' := [.int 1]) (h' := h) rfl ?_
    refine qsm_if false rfl (rfl) rfl ?_
    refine qsm_pls (n := 1) (k' := 11) (lo' := [some (.ref 1), some (.retAddr k), some (.int 1)]) (S' := [.ref 1]) (h' := h) rfl ?_
    refine qsm_call hc (qi_step ht) rfl rfl rfl rfl rfl rfl rfl rfl (ai_rcv1 rfl rfl (qcs_obj hc)) (fun v1 s1 h1 f1 hc1 => ?_)
    show qsm L xs e Y bc bs _ qm_65 12 [some (.ref 1), some (.retAddr k), some (.int 1)] [] h1 _ _ _
    refine qsm_pls (n := 1) (k' := 13) (lo' := [some (.ref 1), some (.retAddr k), some (.int 1)]) (S' := [.int 1]) (h' := h1) rfl ?_
    exact qsm_ret5 (v := 1) hc1 rfl rfl rfl (by decide)
  · rw [if_neg h1]
    refine qsm_acmp true rfl (qzk (hlt _) hk) (qa_neT h1) rfl ?_
    refine qsm_pls (n := 3) (k' := 9) (lo' := [some (.ref 1), some (.retAddr k), some (.int 0)]) (S' := [.int 0]) (h' := h) rfl ?_
    refine qsm_if true rfl (rfl) rfl ?_
    refine qsm_pls (n := 1) (k' := 13) (lo' := [some (.ref 1), some (.retAddr k), some (.int 0)]) (S' := [.int 0]) (h' := h) rfl ?_
    exact qsm_ret5 (v := 0) hc rfl rfl rfl (by decide)
/-- a call that changes nothing -/
theorem qsm_ask {M : ai_M} {k : Nat} {lo : ai_L} {S : List Value} {md : Nat} {r : zR Nat} {pc ln n mi : Nat} {i : Instr} {rs : List Int} {nm : String} {as S0 : List Value} {v : Value} (he : qe L xs d mi as h (.inl (some v), h)) (hk : (ai_Mc M)[k]? = some (pc, i, ln, 1, rs, nm)) (hmi : (ai_nth (1, rs, nm) 0).toNat = mi) (hn : (ai_nth (1, rs, nm) 1).toNat = n) (has : (S.take n).reverse = as) (hS0 : S.drop n = S0) (hw : Nat.ble (ai_wt S0) 8 = true) (hle : Nat.ble n S.length = true) (hrc : ai_rcv (qr_Z L xs) (1, rs, nm) as.head? h = true)
    (hs : qsm L xs e Y bc bs d M (k + 1) lo (v :: S0) h md P r) : qsm L xs e Y bc bs d M k lo S h md P r := qsm_st (fun _ hg => qg_call hk hmi hn has hS0 hw hle hrc he hg) hs
/-- Grammar.name() -/
theorem qi_name (ht : qtk e Y) : qim L xs e Y bc bs (d + 5) 45 [.ref 1] 0 (znm e) := by
  have hlt := qtk_lt ht
  refine qim_of (M := qm_45) rfl rfl (fun P s h hc => ?_)
  show qsm L xs e Y bc bs _ qm_45 0 [some (.ref 1)] [] h _ _ _
  have hb := qcs_bd hc
  have hsl := qtk_sl ht s.1
  refine qsm_pls (n := 1) (k' := 1) (lo' := [some (.ref 1)]) (S' := [.ref 1]) (h' := h) rfl ?_
  refine qsm_getf (v := .retAddr (ztk e s.1)) rfl (qcs_obj hc) rfl rfl rfl ?_
  refine qsm_pls (n := 1) (k' := 3) (lo' := [some (.ref 1)]) (S' := [.retAddr 99, .retAddr (ztk e s.1)]) (h' := h) rfl ?_
  unfold znm zc
  by_cases h1 : ztk e s.1 = 99
  · rw [if_pos h1]
    obtain ⟨fs4, h4⟩ := qcs_plain hc
    obtain ⟨fs6, h6⟩ := qtk_tok ht (qcs_prot hc)
    refine qsm_acmp true rfl (qzk (hlt _) (by decide)) (qa_eqT h1) rfl ?_
    refine qsm_pls (n := 1) (k' := 10) (lo' := [some (.ref 1)]) (S' := [.ref 1]) (h' := h) rfl ?_
    refine qsm_getf (v := .ref 4) rfl (qcs_obj hc) rfl rfl rfl ?_
    refine qsm_pls (n := 1) (k' := 12) (lo' := [some (.ref 1)]) (S' := [.ref 1, .ref 4]) (h' := h) rfl ?_
    refine qsm_getf (v := .ref 2) rfl (qcs_obj hc) rfl rfl rfl ?_
    refine qsm_pls (n := 1) (k' := 14) (lo' := [some (.ref 1)]) (S' := [.ref 1, .ref 2, .ref 4]) (h' := h) rfl ?_
    refine qsm_getf (v := .ref 6) rfl (qcs_obj hc) rfl rfl rfl ?_
    refine qsm_pls (n := 1) (k' := 16) (lo' := [some (.ref 1)]) (S' := [.ref 1, .ref 6, .ref 2, .ref 4]) (h' := h) rfl ?_
    refine qsm_getf (v := .int (nI s.1)) rfl (qcs_obj hc) rfl rfl rfl ?_
    refine qsm_ask (q_from ht (qcs_prot hc) (by omega)) rfl rfl rfl rfl rfl rfl rfl (ai_rcv1 rfl rfl h6) ?_
    show qsm L xs e Y bc bs _ qm_45 18 [some (.ref 1)] [.int (nI (zfr e s.1)), .ref 2, .ref 4] h _ _ _
    refine qsm_pls (n := 1) (k' := 19) (lo' := [some (.ref 1)]) (S' := [.ref 1, .int (nI (zfr e s.1)), .ref 2, .ref 4]) (h' := h) rfl ?_
    refine qsm_getf (v := .ref 6) rfl (qcs_obj hc) rfl rfl rfl ?_
    refine qsm_pls (n := 1) (k' := 21) (lo' := [some (.ref 1)]) (S' := [.ref 1, .ref 6, .int (nI (zfr e s.1)), .ref 2, .ref 4]) (h' := h) rfl ?_
    refine qsm_getf (v := .int (nI s.1)) rfl (qcs_obj hc) rfl rfl rfl ?_
    refine qsm_ask (q_to ht (qcs_prot hc) (by omega)) rfl rfl rfl rfl rfl rfl rfl (ai_rcv1 rfl rfl h6) ?_
    show qsm L xs e Y bc bs _ qm_45 23 [some (.ref 1)] [.int (nI (zto e s.1)), .int (nI (zfr e s.1)), .ref 2, .ref 4] h _ _ _
    refine qsm_call hc (qi_small ht hsl.1 hsl.2) rfl rfl rfl rfl rfl rfl rfl rfl (ai_rcv1 rfl rfl h4) (fun v1 s1 h1 f1 hc1 => ?_)
    show qsm L xs e Y bc bs _ qm_45 24 [some (.ref 1)] [] h1 _ _ _
    refine qsm_pls (n := 1) (k' := 25) (lo' := [some (.ref 1)]) (S' := [.ref 1]) (h' := h1) rfl ?_
    refine qsm_callL hc1 (qi_step ht) rfl rfl rfl rfl rfl rfl rfl rfl (ai_rcv1 rfl rfl (qcs_obj hc1)) (fun v2 s2 h2 f2 hc2 => ?_)
    show qsm L xs e Y bc bs _ qm_45 26 [some (.ref 1)] [] h2 _ _ _
    exact qsm_ret7 hc2 rfl
  · rw [if_neg h1]
    refine qsm_acmp false rfl (qzk (hlt _) (by decide)) (qa_eqF h1) rfl ?_
    exact qsm_throw hc rfl rfl rfl
/-- Grammar.string() -/
theorem qi_string (ht : qtk e Y) : qim L xs e Y bc bs (d + 5) 52 [.ref 1] 0 (zst e) := by
  have hlt := qtk_lt ht
  refine qim_of (M := qm_52) rfl rfl (fun P s h hc => ?_)
  show qsm L xs e Y bc bs _ qm_52 0 [some (.ref 1)] [] h _ _ _
  have hb := qcs_bd hc
  have hsl := qtk_sl ht s.1
  unfold zst
  obtain ⟨fs4, h4⟩ := qcs_plain hc
  obtain ⟨fs6, h6⟩ := qtk_tok ht (qcs_prot hc)
  refine qsm_pls (n := 1) (k' := 1) (lo' := [some (.ref 1)]) (S' := [.ref 1]) (h' := h) rfl ?_
  refine qsm_getf (v := .ref 4) rfl (qcs_obj hc) rfl rfl rfl ?_
  refine qsm_pls (n := 1) (k' := 3) (lo' := [some (.ref 1)]) (S' := [.ref 1, .ref 4]) (h' := h) rfl ?_
  refine qsm_getf (v := .ref 2) rfl (qcs_obj hc) rfl rfl rfl ?_
  refine qsm_pls (n := 1) (k' := 5) (lo' := [some (.ref 1)]) (S' := [.ref 1, .ref 2, .ref 4]) (h' := h) rfl ?_
  refine qsm_getf (v := .ref 6) rfl (qcs_obj hc) rfl rfl rfl ?_
  refine qsm_pls (n := 1) (k' := 7) (lo' := [some (.ref 1)]) (S' := [.ref 1, .ref 6, .ref 2, .ref 4]) (h' := h) rfl ?_
  refine qsm_getf (v := .int (nI s.1)) rfl (qcs_obj hc) rfl rfl rfl ?_
  refine qsm_ask (q_from ht (qcs_prot hc) (by omega)) rfl rfl rfl rfl rfl rfl rfl (ai_rcv1 rfl rfl h6) ?_
  show qsm L xs e Y bc bs _ qm_52 9 [some (.ref 1)] [.int (nI (zfr e s.1)), .ref 2, .ref 4] h _ _ _
  refine qsm_pls (n := 1) (k' := 10) (lo' := [some (.ref 1)]) (S' := [.ref 1, .int (nI (zfr e s.1)), .ref 2, .ref 4]) (h' := h) rfl ?_
  refine qsm_getf (v := .ref 6) rfl (qcs_obj hc) rfl rfl rfl ?_
  refine qsm_pls (n := 1) (k' := 12) (lo' := [some (.ref 1)]) (S' := [.ref 1, .ref 6, .int (nI (zfr e s.1)), .ref 2, .ref 4]) (h' := h) rfl ?_
  refine qsm_getf (v := .int (nI s.1)) rfl (qcs_obj hc) rfl rfl rfl ?_
  refine qsm_ask (q_to ht (qcs_prot hc) (by omega)) rfl rfl rfl rfl rfl rfl rfl (ai_rcv1 rfl rfl h6) ?_
  show qsm L xs e Y bc bs _ qm_52 14 [some (.ref 1)] [.int (nI (zto e s.1)), .int (nI (zfr e s.1)), .ref 2, .ref 4] h _ _ _
  refine qsm_call hc (qi_copied ht hsl.1 hsl.2) rfl rfl rfl rfl rfl rfl rfl rfl (ai_rcv1 rfl rfl h4) (fun v1 s1 h1 f1 hc1 => ?_)
  show qsm L xs e Y bc bs _ qm_52 15 [some (.ref 1)] [] h1 _ _ _
  refine qsm_pls (n := 1) (k' := 16) (lo' := [some (.ref 1)]) (S' := [.ref 1]) (h' := h1) rfl ?_
  refine qsm_callL hc1 (qi_step ht) rfl rfl rfl rfl rfl rfl rfl rfl (ai_rcv1 rfl rfl (qcs_obj hc1)) (fun v2 s2 h2 f2 hc2 => ?_)
  show qsm L xs e Y bc bs _ qm_52 17 [some (.ref 1)] [] h2 _ _ _
  exact qsm_ret7 hc2 rfl
end QTO
