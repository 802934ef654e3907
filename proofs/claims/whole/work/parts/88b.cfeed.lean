/-! THE CLASS IS FED. (Printed by wip/whole/pp.py from wip/whole/src.) -/
section CFE
variable {L : Nat} {xs : Nat → Int32} {d : Nat} {h h' : ai_H} {T Q T' : List Int32} {mx kd tb tl pb pl so fr to n tb' tl' : Nat}
theorem zushb (b : BitVec 32) (k : Nat) (hk : k + 8 ≤ 32) : (b >>> k).signExtend 8 = (b.sshiftRight k).signExtend 8 := by
  rw [BitVec.signExtend_eq_setWidth_of_le _ (by decide), BitVec.signExtend_eq_setWidth_of_le _ (by decide)]
  apply BitVec.eq_of_getLsbD_eq
  intro i hi
  rw [BitVec.getLsbD_setWidth, BitVec.getLsbD_setWidth, BitVec.getLsbD_ushiftRight, BitVec.getLsbD_sshiftRight]
  have h1 : decide (i < 8) = true := decide_eq_true hi
  have h2 : decide (32 ≤ i) = false := decide_eq_false (by omega)
  rw [h1, h2, if_pos (by omega)]
  rfl
theorem zush (v : Int32) : zb (v.toUInt32 >>> (Int32.toUInt32 24 &&& Int32.toUInt32 31)).toInt32 = zfb v 0 ∧ zb (v.toUInt32 >>> (Int32.toUInt32 16 &&& Int32.toUInt32 31)).toInt32 = zfb v 1 ∧ zb (v.toUInt32 >>> (Int32.toUInt32 8 &&& Int32.toUInt32 31)).toInt32 = zfb v 2 ∧ zb v = zfb v 3 := by
  refine ⟨?_, ?_, ?_, ?_⟩
  · exact congrArg Int8.toInt32 (Int8.toBitVec_inj.mp (zushb v.toBitVec 24 (by decide)))
  · exact congrArg Int8.toInt32 (Int8.toBitVec_inj.mp (zushb v.toBitVec 16 (by decide)))
  · exact congrArg Int8.toInt32 (Int8.toBitVec_inj.mp (zushb v.toBitVec 8 (by decide)))
  · exact congrArg Int8.toInt32 (Int8.toBitVec_inj.mp (zushb v.toBitVec 0 (by decide)))
theorem zF_eq {a b c d e : Int32} : zF a b c d e = [zfb a 0, zfb a 1, zfb a 2, zfb a 3] ++ [zfb b 0, zfb b 1, zfb b 2, zfb b 3] ++ [zfb c 0, zfb c 1, zfb c 2, zfb c 3] ++ [zfb d 0, zfb d 1, zfb d 2, zfb d 3] ++ [zfb e 0, zfb e 1, zfb e 2, zfb e 3] := rfl
/-- Row.addFour -/
theorem q_four {r b len : Nat} {t : List Int32} {v : Int32} (hr : qrow h r b len t) (hl : t.length + 4 ≤ 524288) : ∃ h' b' len', qe L xs (d + 4) 109 [.ref r, .int v] h (.inl none, h') ∧ qrow h' r b' len' (t ++ [zfb v 0, zfb v 1, zfb v 2, zfb v 3]) ∧ qro r h b len h' b' len' := by
  obtain ⟨z0, z1, z2, z3⟩ := zush v
  obtain ⟨h1, b1, l1, g1, r1, o1⟩ := q_add (L := L) (xs := xs) (d := d) (v.toUInt32 >>> (Int32.toUInt32 24 &&& Int32.toUInt32 31)).toInt32 hr (by omega)
  rw [z0] at r1
  obtain ⟨h2, b2, l2, g2, r2, o2⟩ := q_add (L := L) (xs := xs) (d := d) (v.toUInt32 >>> (Int32.toUInt32 16 &&& Int32.toUInt32 31)).toInt32 r1 (by rw [List.length_append]; simp only [List.length_cons, List.length_nil]; omega)
  rw [z1] at r2
  obtain ⟨h3, b3, l3, g3, r3, o3⟩ := q_add (L := L) (xs := xs) (d := d) (v.toUInt32 >>> (Int32.toUInt32 8 &&& Int32.toUInt32 31)).toInt32 r2 (by rw [List.length_append, List.length_append]; simp only [List.length_cons, List.length_nil]; omega)
  rw [z2] at r3
  obtain ⟨h4, b4, l4, g4, r4, o4⟩ := q_add (L := L) (xs := xs) (d := d) v r3 (by rw [List.length_append, List.length_append, List.length_append]; simp only [List.length_cons, List.length_nil]; omega)
  rw [z3] at r4
  refine ⟨h4, b4, l4, ?_, ?_, qro_trans (qro_trans (qro_trans o1 o2) o3) o4⟩
  · skip
    refine qe_of (M := qm_109) rfl rfl ?_
    show qg L xs _ qm_109 0 [some (.ref r), some (.int v)] [] h _
    refine qg_pls (n := 4) (k' := 4) (lo' := [some (.ref r), some (.int v)]) (S' := [.int (Int32.toUInt32 v >>> (Int32.toUInt32 24 &&& Int32.toUInt32 31)).toInt32, .ref r]) (h' := h) rfl ?_
    refine qg_call (v := none) (h' := h1) (as := [.ref r, .int (Int32.toUInt32 v >>> (Int32.toUInt32 24 &&& Int32.toUInt32 31)).toInt32]) rfl rfl rfl rfl rfl rfl rfl (ai_rcv1 rfl rfl (qrow_obj hr)) (g1) ?_
    show qg L xs _ qm_109 5 [some (.ref r), some (.int v)] [] h1 _
    refine qg_pls (n := 4) (k' := 9) (lo' := [some (.ref r), some (.int v)]) (S' := [.int (Int32.toUInt32 v >>> (Int32.toUInt32 16 &&& Int32.toUInt32 31)).toInt32, .ref r]) (h' := h1) rfl ?_
    refine qg_call (v := none) (h' := h2) (as := [.ref r, .int (Int32.toUInt32 v >>> (Int32.toUInt32 16 &&& Int32.toUInt32 31)).toInt32]) rfl rfl rfl rfl rfl rfl rfl (ai_rcv1 rfl rfl (qrow_obj r1)) (g2) ?_
    show qg L xs _ qm_109 10 [some (.ref r), some (.int v)] [] h2 _
    refine qg_pls (n := 4) (k' := 14) (lo' := [some (.ref r), some (.int v)]) (S' := [.int (Int32.toUInt32 v >>> (Int32.toUInt32 8 &&& Int32.toUInt32 31)).toInt32, .ref r]) (h' := h2) rfl ?_
    refine qg_call (v := none) (h' := h3) (as := [.ref r, .int (Int32.toUInt32 v >>> (Int32.toUInt32 8 &&& Int32.toUInt32 31)).toInt32]) rfl rfl rfl rfl rfl rfl rfl (ai_rcv1 rfl rfl (qrow_obj r2)) (g3) ?_
    show qg L xs _ qm_109 15 [some (.ref r), some (.int v)] [] h3 _
    refine qg_pls (n := 2) (k' := 17) (lo' := [some (.ref r), some (.int v)]) (S' := [.int v, .ref r]) (h' := h3) rfl ?_
    refine qg_call (v := none) (h' := h4) (as := [.ref r, .int v]) rfl rfl rfl rfl rfl rfl rfl (ai_rcv1 rfl rfl (qrow_obj r3)) (g4) ?_
    show qg L xs _ qm_109 18 [some (.ref r), some (.int v)] [] h4 _
    exact qg_ret7 rfl
  · simp only [List.append_assoc, List.cons_append, List.nil_append] at r4 ⊢
    exact r4
/-- QueryReader.feed -/
theorem q_feedY (hs : qst h T Q mx kd tb tl pb pl so fr to n) {a b c dd e : Int32} (hT : T.length + 20 ≤ 65536) : ∃ h' tb' tl', qe L xs (d + 5) 108 [.ref 0, .int a, .int b, .int c, .int dd, .int e] h (.inl none, h') ∧ qst h' (T ++ zF a b c dd e) Q mx kd tb' tl' pb pl so fr to n ∧ qmv h tb tl pb pl so fr to n h' tb' tl' pb pl so fr to n := by
  obtain ⟨rc, a1, a2, a3, a4, l, fm, fs, r2, r4, hq, c1, c10, c11, c0, npb, bT, bQ⟩ := id hs
  obtain ⟨h1, b1, l1, g1, k1, o1⟩ := q_four (L := L) (xs := xs) (d := d) (v := a) r2 (by omega)
  obtain ⟨h2, b2, l2, g2, k2, o2⟩ := q_four (L := L) (xs := xs) (d := d) (v := b) k1 (by simp only [List.length_append, List.length_cons, List.length_nil]; omega)
  obtain ⟨h3, b3, l3, g3, k3, o3⟩ := q_four (L := L) (xs := xs) (d := d) (v := c) k2 (by simp only [List.length_append, List.length_cons, List.length_nil]; omega)
  obtain ⟨h4, b4, l4, g4, k4, o4⟩ := q_four (L := L) (xs := xs) (d := d) (v := dd) k3 (by simp only [List.length_append, List.length_cons, List.length_nil]; omega)
  obtain ⟨h5, b5, l5, g5, k5, o5⟩ := q_four (L := L) (xs := xs) (d := d) (v := e) k4 (by simp only [List.length_append, List.length_cons, List.length_nil]; omega)
  have e1 := qro_trans o1 o2
  have e2 := qro_trans e1 o3
  have e3 := qro_trans e2 o4
  have e4 := qro_trans e3 o5
  have hk : qrow h5 2 b5 l5 (T ++ zF a b c dd e) := by
    rw [zF_eq]
    simp only [List.append_assoc] at k5 ⊢
    exact k5
  obtain ⟨s1, s2⟩ := qst_row2 hs hk e4 (fun x hx => by
    rcases List.mem_append.mp hx with q | q
    · exact bT x q
    · exact zF_by x q)
  obtain ⟨f2, r2a, r2b, -⟩ := id r2
  have n0 : 0 ≠ tb := q_ne c0 r2b (by intro e; cases e)
  have st : ∀ {hh : ai_H} {bb ll : Nat}, qro 2 h tb tl hh bb ll → hh.1[0]? = some (ai_obj 0 [.ref 1, .ref 2, .ref 4, .ref 12, .int (nI kd)]) := fun {hh bb ll} ho => by
    rw [ho.2.1 0 (by decide) n0 (q_lt c0)]; exact c0
  refine ⟨h5, b5, l5, ?_, s1, s2⟩
  refine qe_of (M := qm_108) rfl rfl ?_
  show qg L xs _ qm_108 0 [some (.ref 0), some (.int a), some (.int b), some (.int c), some (.int dd), some (.int e)] [] h _
  refine qg_pls (n := 1) (k' := 1) (lo' := [some (.ref 0), some (.int a), some (.int b), some (.int c), some (.int dd), some (.int e)]) (S' := [.ref 0]) (h' := h) rfl ?_
  refine qg_getf (v := .ref 2) rfl c0 rfl rfl rfl ?_
  refine qg_call (v := some (.int (nI T.length))) (h' := h) (as := [.ref 2]) rfl rfl rfl rfl rfl rfl rfl (ai_rcv1 rfl rfl (qrow_obj r2)) (qe_up (by omega) (q_size (d := d) r2)) ?_
  show qg L xs _ qm_108 3 [some (.ref 0), some (.int a), some (.int b), some (.int c), some (.int dd), some (.int e)] [.int (nI T.length)] h _
  refine qg_pls (n := 1) (k' := 4) (lo' := [some (.ref 0), some (.int a), some (.int b), some (.int c), some (.int dd), some (.int e)]) (S' := [.int 65516, .int (nI T.length)]) (h' := h) rfl ?_
  refine qg_icmp true rfl (qc_leT (b := 65516) (by omega) (by decide)) rfl ?_
  refine qg_pls (n := 1) (k' := 11) (lo' := [some (.ref 0), some (.int a), some (.int b), some (.int c), some (.int dd), some (.int e)]) (S' := [.ref 0]) (h' := h) rfl ?_
  refine qg_getf (v := .ref 2) rfl c0 rfl rfl rfl ?_
  refine qg_pls (n := 1) (k' := 13) (lo' := [some (.ref 0), some (.int a), some (.int b), some (.int c), some (.int dd), some (.int e)]) (S' := [.int a, .ref 2]) (h' := h) rfl ?_
  refine qg_call (v := none) (h' := h1) (as := [.ref 2, .int a]) rfl rfl rfl rfl rfl rfl rfl (ai_rcv1 rfl rfl (qrow_obj r2)) (g1) ?_
  show qg L xs _ qm_108 14 [some (.ref 0), some (.int a), some (.int b), some (.int c), some (.int dd), some (.int e)] [] h1 _
  refine qg_pls (n := 1) (k' := 15) (lo' := [some (.ref 0), some (.int a), some (.int b), some (.int c), some (.int dd), some (.int e)]) (S' := [.ref 0]) (h' := h1) rfl ?_
  refine qg_getf (v := .ref 2) rfl (st o1) rfl rfl rfl ?_
  refine qg_pls (n := 1) (k' := 17) (lo' := [some (.ref 0), some (.int a), some (.int b), some (.int c), some (.int dd), some (.int e)]) (S' := [.int b, .ref 2]) (h' := h1) rfl ?_
  refine qg_call (v := none) (h' := h2) (as := [.ref 2, .int b]) rfl rfl rfl rfl rfl rfl rfl (ai_rcv1 rfl rfl (qrow_obj k1)) (g2) ?_
  show qg L xs _ qm_108 18 [some (.ref 0), some (.int a), some (.int b), some (.int c), some (.int dd), some (.int e)] [] h2 _
  refine qg_pls (n := 1) (k' := 19) (lo' := [some (.ref 0), some (.int a), some (.int b), some (.int c), some (.int dd), some (.int e)]) (S' := [.ref 0]) (h' := h2) rfl ?_
  refine qg_getf (v := .ref 2) rfl (st e1) rfl rfl rfl ?_
  refine qg_pls (n := 1) (k' := 21) (lo' := [some (.ref 0), some (.int a), some (.int b), some (.int c), some (.int dd), some (.int e)]) (S' := [.int c, .ref 2]) (h' := h2) rfl ?_
  refine qg_call (v := none) (h' := h3) (as := [.ref 2, .int c]) rfl rfl rfl rfl rfl rfl rfl (ai_rcv1 rfl rfl (qrow_obj k2)) (g3) ?_
  show qg L xs _ qm_108 22 [some (.ref 0), some (.int a), some (.int b), some (.int c), some (.int dd), some (.int e)] [] h3 _
  refine qg_pls (n := 1) (k' := 23) (lo' := [some (.ref 0), some (.int a), some (.int b), some (.int c), some (.int dd), some (.int e)]) (S' := [.ref 0]) (h' := h3) rfl ?_
  refine qg_getf (v := .ref 2) rfl (st e2) rfl rfl rfl ?_
  refine qg_pls (n := 1) (k' := 25) (lo' := [some (.ref 0), some (.int a), some (.int b), some (.int c), some (.int dd), some (.int e)]) (S' := [.int dd, .ref 2]) (h' := h3) rfl ?_
  refine qg_call (v := none) (h' := h4) (as := [.ref 2, .int dd]) rfl rfl rfl rfl rfl rfl rfl (ai_rcv1 rfl rfl (qrow_obj k3)) (g4) ?_
  show qg L xs _ qm_108 26 [some (.ref 0), some (.int a), some (.int b), some (.int c), some (.int dd), some (.int e)] [] h4 _
  refine qg_pls (n := 1) (k' := 27) (lo' := [some (.ref 0), some (.int a), some (.int b), some (.int c), some (.int dd), some (.int e)]) (S' := [.ref 0]) (h' := h4) rfl ?_
  refine qg_getf (v := .ref 2) rfl (st e3) rfl rfl rfl ?_
  refine qg_pls (n := 1) (k' := 29) (lo' := [some (.ref 0), some (.int a), some (.int b), some (.int c), some (.int dd), some (.int e)]) (S' := [.int e, .ref 2]) (h' := h4) rfl ?_
  refine qg_call (v := none) (h' := h5) (as := [.ref 2, .int e]) rfl rfl rfl rfl rfl rfl rfl (ai_rcv1 rfl rfl (qrow_obj k4)) (g5) ?_
  show qg L xs _ qm_108 30 [some (.ref 0), some (.int a), some (.int b), some (.int c), some (.int dd), some (.int e)] [] h5 _
  exact qg_ret7 rfl
theorem q_feedN (hs : qst h T Q mx kd tb tl pb pl so fr to n) {a b c dd e : Int32} (hT : 65536 < T.length + 20) (hT2 : T.length ≤ 65536) : qe L xs (d + 5) 108 [.ref 0, .int a, .int b, .int c, .int dd, .int e] h (.inr "java/lang/IllegalStateException", (h.1, h.2.1 + 1, h.2.2 + 6)) := by
  obtain ⟨rc, a1, a2, a3, a4, l, fm, fs, r2, r4, hq, c1, c10, c11, c0, npb, bT, bQ⟩ := hs
  refine qe_of (M := qm_108) rfl rfl ?_
  show qg L xs _ qm_108 0 [some (.ref 0), some (.int a), some (.int b), some (.int c), some (.int dd), some (.int e)] [] h _
  refine qg_pls (n := 1) (k' := 1) (lo' := [some (.ref 0), some (.int a), some (.int b), some (.int c), some (.int dd), some (.int e)]) (S' := [.ref 0]) (h' := h) rfl ?_
  refine qg_getf (v := .ref 2) rfl c0 rfl rfl rfl ?_
  refine qg_call (v := some (.int (nI T.length))) (h' := h) (as := [.ref 2]) rfl rfl rfl rfl rfl rfl rfl (ai_rcv1 rfl rfl (qrow_obj r2)) (qe_up (by omega) (q_size (d := d) r2)) ?_
  show qg L xs _ qm_108 3 [some (.ref 0), some (.int a), some (.int b), some (.int c), some (.int dd), some (.int e)] [.int (nI T.length)] h _
  refine qg_pls (n := 1) (k' := 4) (lo' := [some (.ref 0), some (.int a), some (.int b), some (.int c), some (.int dd), some (.int e)]) (S' := [.int 65516, .int (nI T.length)]) (h' := h) rfl ?_
  refine qg_icmp false rfl (qc_leF (b := 65516) (by omega) (by omega)) rfl ?_
  exact qg_throw rfl rfl rfl
/-- QueryReader.again, no -/
theorem q_againN (hs : qst h T Q mx kd tb tl pb pl so fr to n) (hQ : Q.length = 0 ∨ 65536 < Q.length) : qe L xs (d + 2) 105 [.ref 0] h (.inl (some (.int 0)), h) := by
  obtain ⟨rc, a1, a2, a3, a4, l, fm, fs, r2, r4, hq, c1, c10, c11, c0, npb, bT, bQ⟩ := hs
  have hle := qrow_le r4
  have tail : qg L xs (d + 1) qm_105 11 [some (.ref 0), none] [] h (.inl (some (.int 0)), h) := by
    refine qg_pls (n := 3) (k' := 14) (lo' := [some (.ref 0), some (.int 0)]) (S' := [.int 0]) (h' := h) rfl ?_
    refine qg_if true rfl (rfl) rfl ?_
    refine qg_pls (n := 1) (k' := 21) (lo' := [some (.ref 0), some (.int 0)]) (S' := [.int 0]) (h' := h) rfl ?_
    exact qg_ret5 rfl rfl rfl
  refine qe_of (M := qm_105) rfl rfl ?_
  show qg L xs _ qm_105 0 [some (.ref 0), none] [] h _
  refine qg_pls (n := 1) (k' := 1) (lo' := [some (.ref 0), none]) (S' := [.ref 0]) (h' := h) rfl ?_
  refine qg_getf (v := .ref 4) rfl c0 rfl rfl rfl ?_
  refine qg_call (v := some (.int (nI Q.length))) (h' := h) (as := [.ref 4]) rfl rfl rfl rfl rfl rfl rfl (ai_rcv1 rfl rfl (qrow_obj r4)) (q_size (d := d) r4) ?_
  show qg L xs _ qm_105 3 [some (.ref 0), none] [.int (nI Q.length)] h _
  by_cases h0 : Q.length = 0
  · skip
    refine qg_if true rfl (qc_leT (b := 0) (by omega) (by decide)) rfl ?_
    exact tail
  · skip
    refine qg_if false rfl (qc_leF (b := 0) (by omega) (by omega)) rfl ?_
    refine qg_pls (n := 1) (k' := 5) (lo' := [some (.ref 0), none]) (S' := [.ref 0]) (h' := h) rfl ?_
    refine qg_getf (v := .ref 4) rfl c0 rfl rfl rfl ?_
    refine qg_call (v := some (.int (nI Q.length))) (h' := h) (as := [.ref 4]) rfl rfl rfl rfl rfl rfl rfl (ai_rcv1 rfl rfl (qrow_obj r4)) (q_size (d := d) r4) ?_
    show qg L xs _ qm_105 7 [some (.ref 0), none] [.int (nI Q.length)] h _
    refine qg_pls (n := 1) (k' := 8) (lo' := [some (.ref 0), none]) (S' := [.int 65536, .int (nI Q.length)]) (h' := h) rfl ?_
    refine qg_icmp true rfl (qc_gtT (b := 65536) (by omega) (by omega)) rfl ?_
    exact tail
/-- QueryReader.again, yes -/
theorem q_againY (hs : qst h T Q mx kd tb tl pb pl so fr to n) (hQ : 0 < Q.length) (hQ2 : Q.length ≤ 65536) : ∃ h' tb' tl', qe L xs (d + 2) 105 [.ref 0] h (.inl (some (.int 1)), h') ∧ qst h' Q Q mx kd tb' tl' pb pl so fr to n ∧ qmv h tb tl pb pl so fr to n h' tb' tl' pb pl so fr to n := by
  obtain ⟨rc, a1, a2, a3, a4, l, fm, fs, r2, r4, hq, c1, c10, c11, c0, npb, bT, bQ⟩ := id hs
  have hle2 := qrow_le r2
  have hle4 := qrow_le r4
  obtain ⟨f2, r2a, r2b, r2c, ⟨e2, r2d, r2e⟩, r2f⟩ := id r2
  obtain ⟨f4, r4a, r4b, r4c, ⟨e4, r4d, r4e⟩, r4f⟩ := id r4
  have n2 : 2 ≠ tb := q_ne r2a r2b (by intro e; cases e)
  have n4 : 4 ≠ tb := q_ne r4a r2b (by intro e; cases e)
  have m2 : 2 ≠ pb := q_ne r2a r4b (by intro e; cases e)
  -- become
  have hbec : ∃ h' tb' tl', qe L xs (d + 1) 106 [.ref 2, .ref 4] h (.inl none, h') ∧ qrow h' 2 tb' tl' Q ∧ qro 2 h tb tl h' tb' tl' := by
    by_cases hlt : tl < Q.length
    · -- a new array
      have hpw : 2 * tl ≤ pl := by
        rw [r2e, r4e]
        have : e2 < e4 := by
          rcases Nat.lt_or_ge e2 e4 with q | q
          · exact q
          · have := Nat.pow_le_pow_right (show 0 < 2 by decide) q
            omega
        have h3 : 2 ^ (e2 + 1) ≤ 2 ^ e4 := Nat.pow_le_pow_right (by decide) this
        rw [Nat.pow_succ] at h3
        omega
      have htl : 256 ≤ tl := by
        rw [r2e]
        have := Nat.one_le_two_pow (n := e2)
        omega
      have hcopy := q_copy (S := []) (ty := .byte) (a := pb) (c := h.1.length) (n0 := pl) (n1 := pl) (n := Q.length) (sp := 0) (dp := 0) (f := f4) (g := fun _ => 0) (h := (((h.1 ++ [ai_num .byte pl (fun _ => 0)]).set 2 (ai_obj 3 [.ref h.1.length, .int (nI T.length)])), h.2.1 + 1, h.2.2 + pl)) (q_stay (q_app r4b) m2) (q_stay q_new (by have := q_lt r2a; omega)) (by omega) (by omega) (by omega) (by omega)
      have o1 : ((h.1 ++ [ai_num .byte pl (fun _ => 0)]).set 2 (ai_obj 3 [.ref h.1.length, .int (nI T.length)]))[2]? = some (ai_obj 3 [.ref h.1.length, .int (nI T.length)]) := q_set (q_app r2a)
      have hl2 := q_lt r2a
      refine ⟨((((h.1 ++ [ai_num .byte pl (fun _ => 0)]).set 2 (ai_obj 3 [.ref h.1.length, .int (nI T.length)])).set h.1.length (ai_num .byte pl (va_cpy f4 (fun _ => 0) 0 0 Q.length))).set 2 (ai_obj 3 [.ref h.1.length, .int (nI Q.length)]), h.2.1 + 1, h.2.2 + pl), h.1.length, pl, ?_, ⟨va_cpy f4 (fun _ => 0) 0 0 Q.length, q_set (q_stay o1 (by omega)), q_stay (q_set (q_stay q_new (by omega))) (by omega), hle4.2, ⟨e4, r4d, r4e⟩, fun j hj => ?_⟩, ?_, fun i i1 i2 i3 => ?_, Or.inr (Nat.le_refl _), by omega, by show 16 * (h.2.1 + 1) + tl ≤ _; omega, by show h.2.2 + pl + 2 * tl ≤ _; omega⟩
      · skip
        refine qe_of (M := qm_106) rfl rfl ?_
        show qg L xs _ qm_106 0 [some (.ref 2), some (.ref 4)] [] h _
        refine qg_pls (n := 1) (k' := 1) (lo' := [some (.ref 2), some (.ref 4)]) (S' := [.ref 2]) (h' := h) rfl ?_
        refine qg_getf (v := .ref tb) rfl r2a rfl rfl rfl ?_
        refine qg_alen rfl r2b ?_
        refine qg_pls (n := 1) (k' := 4) (lo' := [some (.ref 2), some (.ref 4)]) (S' := [.ref 4, .int (nI tl)]) (h' := h) rfl ?_
        refine qg_getf (v := .int (nI Q.length)) rfl r4a rfl rfl rfl ?_
        refine qg_icmp false rfl (qc_geF hlt (by omega)) rfl ?_
        refine qg_pls (n := 2) (k' := 8) (lo' := [some (.ref 2), some (.ref 4)]) (S' := [.ref 4, .ref 2]) (h' := h) rfl ?_
        refine qg_getf (v := .ref pb) rfl r4a rfl rfl rfl ?_
        refine qg_alen rfl r4b ?_
        refine qg_newa rfl (by omega) (by decide) ?_
        show qg L xs _ qm_106 11 [some (.ref 2), some (.ref 4)] [.ref h.1.length, .ref 2] (h.1 ++ [ai_num .byte pl (fun _ => 0)], h.2.1 + 1, h.2.2 + pl) _
        refine qg_putf rfl (q_app r2a) rfl rfl (Nat.le_of_ble_eq_true rfl) rfl ?_
        show qg L xs _ qm_106 12 [some (.ref 2), some (.ref 4)] [] ((h.1 ++ [ai_num .byte pl (fun _ => 0)]).set 2 (ai_obj 3 [.ref h.1.length, .int (nI T.length)]), h.2.1 + 1, h.2.2 + pl) _
        refine qg_pls (n := 1) (k' := 13) (lo' := [some (.ref 2), some (.ref 4)]) (S' := [.ref 4]) (h' := ((h.1 ++ [ai_num .byte pl (fun _ => 0)]).set 2 (ai_obj 3 [.ref h.1.length, .int (nI T.length)]), h.2.1 + 1, h.2.2 + pl)) rfl ?_
        refine qg_getf (v := .int (nI Q.length)) rfl (q_stay (q_app r4a) (show 2 ≠ 4 by decide)) rfl rfl rfl ?_
        refine qg_pls (n := 1) (k' := 15) (lo' := [some (.ref 2), some (.ref 4)]) (S' := [.ref 2, .int (nI Q.length)]) (h' := ((h.1 ++ [ai_num .byte pl (fun _ => 0)]).set 2 (ai_obj 3 [.ref h.1.length, .int (nI T.length)]), h.2.1 + 1, h.2.2 + pl)) rfl ?_
        refine qg_getf (v := .ref h.1.length) rfl o1 rfl rfl rfl ?_
        refine qg_alen rfl (q_stay q_new (show 2 ≠ h.1.length by omega)) ?_
        refine qg_icmp false rfl (qc_gtF (by omega) (by omega)) rfl ?_
        refine qg_pls (n := 1) (k' := 19) (lo' := [some (.ref 2), some (.ref 4)]) (S' := [.ref 4]) (h' := ((h.1 ++ [ai_num .byte pl (fun _ => 0)]).set 2 (ai_obj 3 [.ref h.1.length, .int (nI T.length)]), h.2.1 + 1, h.2.2 + pl)) rfl ?_
        refine qg_getf (v := .int (nI Q.length)) rfl (q_stay (q_app r4a) (show 2 ≠ 4 by decide)) rfl rfl rfl ?_
        refine qg_pls (n := 1) (k' := 21) (lo' := [some (.ref 2), some (.ref 4)]) (S' := [.ref 4, .int (nI Q.length)]) (h' := ((h.1 ++ [ai_num .byte pl (fun _ => 0)]).set 2 (ai_obj 3 [.ref h.1.length, .int (nI T.length)]), h.2.1 + 1, h.2.2 + pl)) rfl ?_
        refine qg_getf (v := .ref pb) rfl (q_stay (q_app r4a) (show 2 ≠ 4 by decide)) rfl rfl rfl ?_
        refine qg_alen rfl (q_stay (q_app r4b) m2) ?_
        refine qg_icmp false rfl (qc_gtF (by omega) (by omega)) rfl ?_
        refine qg_pls (n := 1) (k' := 25) (lo' := [some (.ref 2), some (.ref 4)]) (S' := [.ref 4]) (h' := ((h.1 ++ [ai_num .byte pl (fun _ => 0)]).set 2 (ai_obj 3 [.ref h.1.length, .int (nI T.length)]), h.2.1 + 1, h.2.2 + pl)) rfl ?_
        refine qg_getf (v := .ref pb) rfl (q_stay (q_app r4a) (show 2 ≠ 4 by decide)) rfl rfl rfl ?_
        refine qg_pls (n := 2) (k' := 28) (lo' := [some (.ref 2), some (.ref 4)]) (S' := [.ref 2, .int 0, .ref pb]) (h' := ((h.1 ++ [ai_num .byte pl (fun _ => 0)]).set 2 (ai_obj 3 [.ref h.1.length, .int (nI T.length)]), h.2.1 + 1, h.2.2 + pl)) rfl ?_
        refine qg_getf (v := .ref h.1.length) rfl o1 rfl rfl rfl ?_
        refine qg_pls (n := 2) (k' := 31) (lo' := [some (.ref 2), some (.ref 4)]) (S' := [.ref 4, .int 0, .ref h.1.length, .int 0, .ref pb]) (h' := ((h.1 ++ [ai_num .byte pl (fun _ => 0)]).set 2 (ai_obj 3 [.ref h.1.length, .int (nI T.length)]), h.2.1 + 1, h.2.2 + pl)) rfl ?_
        refine qg_getf (v := .int (nI Q.length)) rfl (q_stay (q_app r4a) (show 2 ≠ 4 by decide)) rfl rfl rfl ?_
        refine qg_cpy rfl (hcopy) rfl ?_
        show qg L xs _ qm_106 33 [some (.ref 2), some (.ref 4)] [] (((h.1 ++ [ai_num .byte pl (fun _ => 0)]).set 2 (ai_obj 3 [.ref h.1.length, .int (nI T.length)])).set h.1.length (ai_num .byte pl (va_cpy f4 (fun _ => 0) 0 0 Q.length)), h.2.1 + 1, h.2.2 + pl) _
        refine qg_pls (n := 2) (k' := 35) (lo' := [some (.ref 2), some (.ref 4)]) (S' := [.ref 4, .ref 2]) (h' := (((h.1 ++ [ai_num .byte pl (fun _ => 0)]).set 2 (ai_obj 3 [.ref h.1.length, .int (nI T.length)])).set h.1.length (ai_num .byte pl (va_cpy f4 (fun _ => 0) 0 0 Q.length)), h.2.1 + 1, h.2.2 + pl)) rfl ?_
        refine qg_getf (v := .int (nI Q.length)) rfl (q_stay (q_stay (q_app r4a) (show 2 ≠ 4 by decide)) (show h.1.length ≠ 4 by have := q_lt r4a; omega)) rfl rfl rfl ?_
        refine qg_putf rfl (q_stay o1 (show h.1.length ≠ 2 by omega)) rfl rfl (Nat.le_of_ble_eq_true rfl) rfl ?_
        exact qg_ret7 rfl
      · rw [show va_cpy f4 (fun _ => 0) 0 0 Q.length j = f4 j by simp [va_cpy, hj]]
        exact r4f j hj
      · show h.1.length ≤ ((((h.1 ++ [ai_num .byte pl (fun _ => 0)]).set 2 _).set h.1.length _).set 2 _).length
        simp
      · show ((((h.1 ++ [ai_num .byte pl (fun _ => 0)]).set 2 _).set h.1.length _).set 2 _)[i]? = _
        rw [List.getElem?_set_ne (fun q => i1 q.symm), List.getElem?_set_ne (by omega), List.getElem?_set_ne (fun q => i1 q.symm), List.getElem?_append_left i3]
    · have hcopy := q_copy (S := []) (ty := .byte) (a := pb) (c := tb) (n0 := pl) (n1 := tl) (n := Q.length) (sp := 0) (dp := 0) (f := f4) (g := f2) (h := h) r4b r2b (by omega) (by omega) (by omega) (by omega)
      refine ⟨((h.1.set tb (ai_num .byte tl (va_cpy f4 f2 0 0 Q.length))).set 2 (ai_obj 3 [.ref tb, .int (nI Q.length)]), h.2), tb, tl, ?_, ⟨va_cpy f4 f2 0 0 Q.length, q_set (q_stay r2a (fun e => n2 e.symm)), q_stay (q_set r2b) n2, by omega, ⟨e2, r2d, r2e⟩, fun j hj => ?_⟩, by simp, fun i i1 i2 i3 => ?_, Or.inl rfl, Nat.le_refl _, Nat.le_refl _, Nat.le_refl _⟩
      · skip
        refine qe_of (M := qm_106) rfl rfl ?_
        show qg L xs _ qm_106 0 [some (.ref 2), some (.ref 4)] [] h _
        refine qg_pls (n := 1) (k' := 1) (lo' := [some (.ref 2), some (.ref 4)]) (S' := [.ref 2]) (h' := h) rfl ?_
        refine qg_getf (v := .ref tb) rfl r2a rfl rfl rfl ?_
        refine qg_alen rfl r2b ?_
        refine qg_pls (n := 1) (k' := 4) (lo' := [some (.ref 2), some (.ref 4)]) (S' := [.ref 4, .int (nI tl)]) (h' := h) rfl ?_
        refine qg_getf (v := .int (nI Q.length)) rfl r4a rfl rfl rfl ?_
        refine qg_icmp true rfl (qc_geT (by omega) (by omega)) rfl ?_
        refine qg_pls (n := 1) (k' := 13) (lo' := [some (.ref 2), some (.ref 4)]) (S' := [.ref 4]) (h' := h) rfl ?_
        refine qg_getf (v := .int (nI Q.length)) rfl r4a rfl rfl rfl ?_
        refine qg_pls (n := 1) (k' := 15) (lo' := [some (.ref 2), some (.ref 4)]) (S' := [.ref 2, .int (nI Q.length)]) (h' := h) rfl ?_
        refine qg_getf (v := .ref tb) rfl r2a rfl rfl rfl ?_
        refine qg_alen rfl r2b ?_
        refine qg_icmp false rfl (qc_gtF (by omega) (by omega)) rfl ?_
        refine qg_pls (n := 1) (k' := 19) (lo' := [some (.ref 2), some (.ref 4)]) (S' := [.ref 4]) (h' := h) rfl ?_
        refine qg_getf (v := .int (nI Q.length)) rfl r4a rfl rfl rfl ?_
        refine qg_pls (n := 1) (k' := 21) (lo' := [some (.ref 2), some (.ref 4)]) (S' := [.ref 4, .int (nI Q.length)]) (h' := h) rfl ?_
        refine qg_getf (v := .ref pb) rfl r4a rfl rfl rfl ?_
        refine qg_alen rfl r4b ?_
        refine qg_icmp false rfl (qc_gtF (by omega) (by omega)) rfl ?_
        refine qg_pls (n := 1) (k' := 25) (lo' := [some (.ref 2), some (.ref 4)]) (S' := [.ref 4]) (h' := h) rfl ?_
        refine qg_getf (v := .ref pb) rfl r4a rfl rfl rfl ?_
        refine qg_pls (n := 2) (k' := 28) (lo' := [some (.ref 2), some (.ref 4)]) (S' := [.ref 2, .int 0, .ref pb]) (h' := h) rfl ?_
        refine qg_getf (v := .ref tb) rfl r2a rfl rfl rfl ?_
        refine qg_pls (n := 2) (k' := 31) (lo' := [some (.ref 2), some (.ref 4)]) (S' := [.ref 4, .int 0, .ref tb, .int 0, .ref pb]) (h' := h) rfl ?_
        refine qg_getf (v := .int (nI Q.length)) rfl r4a rfl rfl rfl ?_
        refine qg_cpy rfl (hcopy) rfl ?_
        show qg L xs _ qm_106 33 [some (.ref 2), some (.ref 4)] [] (h.1.set tb (ai_num .byte tl (va_cpy f4 f2 0 0 Q.length)), h.2) _
        refine qg_pls (n := 2) (k' := 35) (lo' := [some (.ref 2), some (.ref 4)]) (S' := [.ref 4, .ref 2]) (h' := (h.1.set tb (ai_num .byte tl (va_cpy f4 f2 0 0 Q.length)), h.2)) rfl ?_
        refine qg_getf (v := .int (nI Q.length)) rfl (q_stay r4a (fun e => n4 e.symm)) rfl rfl rfl ?_
        refine qg_putf rfl (q_stay r2a (fun e => n2 e.symm)) rfl rfl (Nat.le_of_ble_eq_true rfl) rfl ?_
        exact qg_ret7 rfl
      · rw [show va_cpy f4 f2 0 0 Q.length j = f4 j by simp [va_cpy, hj]]
        exact r4f j hj
      · show ((h.1.set tb _).set 2 _)[i]? = _
        rw [List.getElem?_set_ne (fun q => i1 q.symm), List.getElem?_set_ne (fun q => i2 q.symm)]
  obtain ⟨h', tb', tl', g, k1, o1⟩ := hbec
  obtain ⟨s1, s2⟩ := qst_row2 hs k1 o1 bQ
  refine ⟨h', tb', tl', ?_, s1, s2⟩
  refine qe_of (M := qm_105) rfl rfl ?_
  show qg L xs _ qm_105 0 [some (.ref 0), none] [] h _
  refine qg_pls (n := 1) (k' := 1) (lo' := [some (.ref 0), none]) (S' := [.ref 0]) (h' := h) rfl ?_
  refine qg_getf (v := .ref 4) rfl c0 rfl rfl rfl ?_
  refine qg_call (v := some (.int (nI Q.length))) (h' := h) (as := [.ref 4]) rfl rfl rfl rfl rfl rfl rfl (ai_rcv1 rfl rfl (qrow_obj r4)) (q_size (d := d) r4) ?_
  show qg L xs _ qm_105 3 [some (.ref 0), none] [.int (nI Q.length)] h _
  refine qg_if false rfl (qc_leF (b := 0) hQ (by omega)) rfl ?_
  refine qg_pls (n := 1) (k' := 5) (lo' := [some (.ref 0), none]) (S' := [.ref 0]) (h' := h) rfl ?_
  refine qg_getf (v := .ref 4) rfl c0 rfl rfl rfl ?_
  refine qg_call (v := some (.int (nI Q.length))) (h' := h) (as := [.ref 4]) rfl rfl rfl rfl rfl rfl rfl (ai_rcv1 rfl rfl (qrow_obj r4)) (q_size (d := d) r4) ?_
  show qg L xs _ qm_105 7 [some (.ref 0), none] [.int (nI Q.length)] h _
  refine qg_pls (n := 1) (k' := 8) (lo' := [some (.ref 0), none]) (S' := [.int 65536, .int (nI Q.length)]) (h' := h) rfl ?_
  refine qg_icmp false rfl (qc_gtF (b := 65536) hQ2 (by decide)) rfl ?_
  refine qg_pls (n := 4) (k' := 14) (lo' := [some (.ref 0), some (.int 1)]) (S' := [.int 1]) (h' := h) rfl ?_
  refine qg_if false rfl (rfl) rfl ?_
  refine qg_pls (n := 1) (k' := 16) (lo' := [some (.ref 0), some (.int 1)]) (S' := [.ref 0]) (h' := h) rfl ?_
  refine qg_getf (v := .ref 2) rfl c0 rfl rfl rfl ?_
  refine qg_pls (n := 1) (k' := 18) (lo' := [some (.ref 0), some (.int 1)]) (S' := [.ref 0, .ref 2]) (h' := h) rfl ?_
  refine qg_getf (v := .ref 4) rfl c0 rfl rfl rfl ?_
  refine qg_call (v := none) (h' := h') (as := [.ref 2, .ref 4]) rfl rfl rfl rfl rfl rfl rfl (ai_rcv1 rfl rfl (qrow_obj r2)) (g) ?_
  show qg L xs _ qm_105 20 [some (.ref 0), some (.int 1)] [] h' _
  refine qg_pls (n := 1) (k' := 21) (lo' := [some (.ref 0), some (.int 1)]) (S' := [.int 1]) (h' := h') rfl ?_
  exact qg_ret5 rfl rfl rfl
end CFE
