/-! THE MODEL'S READ. (Printed by wip/whole/pp.py from wip/whole/src.) -/
section MRG
variable {L : Nat} {xs : Nat → Int32} {d : Nat} {h h' : ai_H} {B Q T : List Int32} {J : List zJ} {kd dp : Nat}
/-- tokens and text that were read stay while a statement is read -/
theorem mtk_of {h1 : ai_H} {ft : Nat → Int32} (hw : mwd h1) (h17 : h1.1[17]? = some (ai_num .byte 65536 ft)) (hB : mby ft B) (hr : mtr h1 (zen B).1) : mtk (zen B) (mYh h1) := by
  obtain ⟨gw, w1, w2⟩ := hw
  obtain ⟨f1, fk, fz, r1, r2, r3, r4⟩ := hr
  exact ⟨gw, ft, f1, fk, fz, mYh_of w1 (by decide), w2, mYh_of h17 (by decide), hB.1, hB.2.1, mYh_of r1 (by decide), mYh_of r2 (by decide), mYh_of r3 (by decide), fun i hi => r4 i hi, hB.2.2, rfl⟩
/-- QueryReaderModel.read -/
theorem m_read {m : Nat} {v : Option Nat} {s' : zS} (hm : m + 1 ≤ 91) (hs : mst h B Q kd dp J T) (hz : zread (zen B) (m + 1) = some (v, s')) : ∃ h' J', qe L xs (d + 16 * (m + 1) + 17) 118 [.ref 14] h (.inl (some (.int (nI (zrv (zen B) v s')))), h') ∧ mst h' [] (zrq v s') (zrk v) s'.2.2.1 J' B ∧ mmv h h' ∧ (h'.2 = h.2 ∨ h'.2 = (h.2.1 + 1, h.2.2 + 6)) := by
  obtain ⟨cn, v1, v10, v14, v17, v18, v19, v20, v21, tb, ft, rf, bf, wr, wf, sn, c14, cw, c16, cB, c17, cT, ⟨f18, c18⟩, ⟨f19, c19⟩, ⟨f20, c20⟩, c21, c22, c23, c24, c25, -, -, -, -⟩ := hs
  obtain ⟨s2, hz2, hd2, hn2, hp2⟩ := zread_inv hz
  have hBl := cB.1
  generalize hD : d + 16 * (m + 1) + 16 = D
  -- up to the tokens
  have a14 := q_set (y := mob (.int 0) B.length B.length cn v10 J.length v14 dp kd v17 v18 v19 v20 v21) c14
  obtain ⟨fB, hfB, road1⟩ := m_copy (L := L) (xs := xs) (d := D) (v1 := .int 0) (v10 := v10) (v14 := v14) (v17 := v17) (v18 := v18) (v19 := v19) (v20 := v20) (v21 := v21) (ln := B.length) (cn := cn) (kp := J.length) (kd := kd) (dp := dp) cB B.length 0 (h.1.set 14 (mob (.int 0) B.length B.length cn v10 J.length v14 dp kd v17 v18 v19 v20 v21), h.2) ft rfl (Nat.zero_le _) a14 (q_stay c16 (by decide)) (q_stay c17 (by decide)) (fun j hj => absurd hj (Nat.not_lt_zero _))
  have b14 := q_stay (x := ai_num .byte 65536 fB) a14 (show 17 ≠ 14 by decide)
  generalize hh2 : ((((h.1.set 14 (mob (.int 0) B.length B.length cn v10 J.length v14 dp kd v17 v18 v19 v20 v21)).set 17 (ai_num .byte 65536 fB)).set 14 (mob (.int 0) 0 B.length cn v10 J.length v14 dp kd v17 v18 v19 v20 v21), h.2) : ai_H) = h2
  have k2 : ∀ i, i ≠ 14 → i ≠ 17 → h2.1[i]? = h.1[i]? := by
    intro i i1 i2
    rw [← hh2]
    show ((((h.1.set 14 _).set 17 _).set 14 _))[i]? = _
    rw [List.getElem?_set_ne (fun q => i1 q.symm), List.getElem?_set_ne (fun q => i2 q.symm), List.getElem?_set_ne (fun q => i1 q.symm)]
  have l2 : h2.1.length = h.1.length := by
    rw [← hh2]
    show ((((h.1.set 14 _).set 17 _).set 14 _)).length = _
    rw [List.length_set, List.length_set, List.length_set]
  have n2 : h2.2 = h.2 := by rw [← hh2]
  have o2 : h2.1[14]? = some (mob (.int 0) 0 B.length cn v10 J.length v14 dp kd v17 v18 v19 v20 v21) := by
    rw [← hh2]; exact q_set b14
  have t2 : h2.1[17]? = some (ai_num .byte 65536 fB) := by
    rw [← hh2]; exact q_stay (q_set (q_stay c17 (by decide))) (by decide)
  have x2 : mtx h2 (.int 0, .int (nI 0), B.length, v10, .int (nI J.length), v14, .int (nI dp), .int (nI kd), v17, v18, v19, v20, v21) cn B := ⟨o2, rfl, hBl, cB.2.2, fB, t2, hfB⟩
  have w2 : mwd h2 := by
    obtain ⟨gw, g1, g2⟩ := cw
    exact ⟨gw, by rw [k2 15 (by decide) (by decide)]; exact g1, g2⟩
  obtain ⟨h3, n3, g3, x3, kp3, r3⟩ := m_readTokens (L := L) (xs := xs) (d := D - 9) x2 w2 ⟨f18, by rw [k2 18 (by decide) (by decide)]; exact c18⟩ ⟨f19, by rw [k2 19 (by decide) (by decide)]; exact c19⟩ ⟨f20, by rw [k2 20 (by decide) (by decide)]; exact c20⟩
  rw [show D - 9 + 9 = D by omega] at g3
  have o3 := x3.1
  -- the fields
  generalize hX : ((.int 0, .int (nI 0), .int (nI B.length), .int (nI n3), .int 0, .int 0) : mX) = X
  have o4 := q_set (y := mobj X 0 0 0 0 v18 v19 v20 0) o3
  generalize hh4 : ((h3.1.set 14 (mobj X 0 0 0 0 v18 v19 v20 0), h3.2) : ai_H) = h4
  have k4 : ∀ i, i ≠ 14 → h4.1[i]? = h3.1[i]? := fun i i1 => by
    rw [← hh4]; exact List.getElem?_set_ne (fun q => i1 q.symm)
  have o4 : h4.1[14]? = some (mobj X 0 0 0 0 v18 v19 v20 0) := by rw [← hh4]; exact o4
  have k24 : ∀ i, i ≠ 14 → i ≠ 17 → i ≠ 18 → i ≠ 19 → i ≠ 20 → h4.1[i]? = h.1[i]? := fun i i1 i2 i3 i4 i5 => by
    rw [k4 i i1, kp3.2 i i1 i3 i4 i5, k2 i i1 i2]
  have t4 : h4.1[17]? = some (ai_num .byte 65536 fB) := by
    rw [k4 17 (by decide), kp3.2 17 (by decide) (by decide) (by decide) (by decide)]; exact t2
  have r4 : mtr h4 (zen B).1 := by
    obtain ⟨f1, fk, fz, q1, q2, q3, q4⟩ := r3
    exact ⟨f1, fk, fz, by rw [k4 18 (by decide)]; exact q1, by rw [k4 19 (by decide)]; exact q2, by rw [k4 20 (by decide)]; exact q3, q4⟩
  have w4 : mwd h4 := by
    obtain ⟨gw, q1, q2⟩ := cw
    exact ⟨gw, by rw [k24 15 (by decide) (by decide) (by decide) (by decide) (by decide)]; exact q1, q2⟩
  have hby : mby fB B := ⟨hBl, hfB, cB.2.2⟩
  have htk := mtk_of w4 t4 hby r4
  have n4 : h4.2 = h.2 := by rw [← hh4]; exact kp3.1.trans n2
  have hc4 : mcs (zen B) (mYh h4) (0, 0, [], X, h4.2, []) [] (0, 0, 0, 0, []) h4 := by
    refine ⟨[], v18, v19, v20, rf, bf, wr, wf, o4, by rw [k24 21 (by decide) (by decide) (by decide) (by decide) (by decide)]; exact c21, by rw [k24 22 (by decide) (by decide) (by decide) (by decide) (by decide)]; exact c22, by rw [k24 23 (by decide) (by decide) (by decide) (by decide) (by decide)]; exact c23, by rw [k24 24 (by decide) (by decide) (by decide) (by decide) (by decide)]; exact c24, rfl, (fun k a ha => by cases ha), (fun i q hq => by cases hq), ⟨(fun u hu => by cases hu), (fun u hu => by cases hu)⟩, ⟨zen_pos, by decide, by decide, rfl, by decide⟩, ⟨Nat.zero_le _, Nat.zero_le _, Nat.zero_le _⟩, (fun a ha => by cases ha), fun i c hi => ?_, ⟨rfl, rfl, rfl, rfl, rfl⟩, rfl⟩
    unfold mYh at hi
    split at hi
    · cases hi
    · exact hi
  have hsp := m_sp (L := L) (xs := xs) (d := d) htk (m + 1) (mfw (0, 0, [], X, h4.2, [])) (by show 0 + (m + 1) ≤ 91; omega)
  have hsq := m_sp (L := L) (xs := xs) (d := d) htk m (mfw (0, 0, [], X, h4.2, [])) (by show 0 + m ≤ 91; omega)
  -- the way to the statement
  have road : ∀ o, qg L xs D qm_118 51 [some (.ref 14), some (.int (nI B.length))] [.ref 14, .ref 14] h4 o → qe L xs (D + 1) 118 [.ref 14] h o := by
    intro o hg
    refine qe_of (M := qm_118) rfl rfl ?_
    show qg L xs _ qm_118 0 [some (.ref 14), none] [] h _
    refine qg_pls (n := 2) (k' := 2) (lo' := [some (.ref 14), none]) (S' := [.int 0, .ref 14]) (h' := h) rfl ?_
    refine qg_putf rfl c14 rfl rfl (Nat.le_of_ble_eq_true rfl) rfl ?_
    refine qg_pls (n := 2) (k' := 5) (lo' := [some (.ref 14), none]) (S' := [.ref 14, .ref 14]) (h' := (h.1.set 14 (ai_obj 5 [.ref 15, .int 0, .ref 16, .int (nI B.length), .ref 17, .int (nI T.length), .int (nI cn), .ref 18, .ref 19, .ref 20, v10, .int (nI J.length), .ref 21, .ref 22, v14, .int (nI dp), .int (nI kd), v17, v18, v19, v20, v21, .ref 23, .ref 24, .ref 25]), h.2)) rfl ?_
    refine qg_getf (v := .int (nI B.length)) rfl (q_set c14) rfl rfl rfl ?_
    refine qg_putf rfl (q_set c14) rfl rfl (Nat.le_of_ble_eq_true rfl) rfl ?_
    rw [List.set_set]
    show qg L xs _ qm_118 7 [some (.ref 14), none] [] (h.1.set 14 (mob (.int 0) B.length B.length cn v10 J.length v14 dp kd v17 v18 v19 v20 v21), h.2) _
    refine qg_pls (n := 2) (k' := 9) (lo' := [some (.ref 14), some (.int 0)]) (S' := []) (h' := (h.1.set 14 (mob (.int 0) B.length B.length cn v10 J.length v14 dp kd v17 v18 v19 v20 v21), h.2)) rfl ?_
    refine road1 _ ?_
    refine qg_pls (n := 2) (k' := 25) (lo' := [some (.ref 14), some (.int (nI B.length))]) (S' := [.int 0, .ref 14]) (h' := ((h.1.set 14 (mob (.int 0) B.length B.length cn v10 J.length v14 dp kd v17 v18 v19 v20 v21)).set 17 (ai_num .byte 65536 fB), h.2)) rfl ?_
    refine qg_putf rfl b14 rfl rfl (Nat.le_of_ble_eq_true rfl) rfl ?_
    show qg L xs _ qm_118 26 [some (.ref 14), some (.int (nI B.length))] [] (((h.1.set 14 (mob (.int 0) B.length B.length cn v10 J.length v14 dp kd v17 v18 v19 v20 v21)).set 17 (ai_num .byte 65536 fB)).set 14 (mob (.int 0) 0 B.length cn v10 J.length v14 dp kd v17 v18 v19 v20 v21), h.2) _
    rw [hh2]
    show qg L xs _ qm_118 26 [some (.ref 14), some (.int (nI B.length))] [] h2 _
    refine qg_pls (n := 1) (k' := 27) (lo' := [some (.ref 14), some (.int (nI B.length))]) (S' := [.ref 14]) (h' := h2) rfl ?_
    refine qg_call (v := none) (h' := h3) (as := [.ref 14]) rfl rfl rfl rfl rfl rfl rfl (ai_rcv1 rfl rfl o2) (g3) ?_
    show qg L xs _ qm_118 28 [some (.ref 14), some (.int (nI B.length))] [] h3 _
    refine qg_pls (n := 2) (k' := 30) (lo' := [some (.ref 14), some (.int (nI B.length))]) (S' := [.int 0, .ref 14]) (h' := h3) rfl ?_
    refine qg_putf rfl o3 rfl rfl (Nat.le_of_ble_eq_true rfl) rfl ?_
    refine qg_pls (n := 2) (k' := 33) (lo' := [some (.ref 14), some (.int (nI B.length))]) (S' := [.int 0, .ref 14]) (h' := (h3.1.set 14 (ai_obj 5 [.ref 15, .int 0, .ref 16, .int (nI 0), .ref 17, .int (nI B.length), .int (nI n3), .ref 18, .ref 19, .ref 20, .int 0, .int (nI J.length), .ref 21, .ref 22, v14, .int (nI dp), .int (nI kd), v17, v18, v19, v20, v21, .ref 23, .ref 24, .ref 25]), h3.2)) rfl ?_
    refine qg_putf rfl (q_set o3) rfl rfl (Nat.le_of_ble_eq_true rfl) rfl ?_
    refine qg_pls (n := 2) (k' := 36) (lo' := [some (.ref 14), some (.int (nI B.length))]) (S' := [.int 0, .ref 14]) (h' := ((h3.1.set 14 (ai_obj 5 [.ref 15, .int 0, .ref 16, .int (nI 0), .ref 17, .int (nI B.length), .int (nI n3), .ref 18, .ref 19, .ref 20, .int 0, .int (nI J.length), .ref 21, .ref 22, v14, .int (nI dp), .int (nI kd), v17, v18, v19, v20, v21, .ref 23, .ref 24, .ref 25])).set 14 (ai_obj 5 [.ref 15, .int 0, .ref 16, .int (nI 0), .ref 17, .int (nI B.length), .int (nI n3), .ref 18, .ref 19, .ref 20, .int 0, .int 0, .ref 21, .ref 22, v14, .int (nI dp), .int (nI kd), v17, v18, v19, v20, v21, .ref 23, .ref 24, .ref 25]), h3.2)) rfl ?_
    refine qg_putf rfl (q_set (q_set o3)) rfl rfl (Nat.le_of_ble_eq_true rfl) rfl ?_
    refine qg_pls (n := 2) (k' := 39) (lo' := [some (.ref 14), some (.int (nI B.length))]) (S' := [.int 0, .ref 14]) (h' := (((h3.1.set 14 (ai_obj 5 [.ref 15, .int 0, .ref 16, .int (nI 0), .ref 17, .int (nI B.length), .int (nI n3), .ref 18, .ref 19, .ref 20, .int 0, .int (nI J.length), .ref 21, .ref 22, v14, .int (nI dp), .int (nI kd), v17, v18, v19, v20, v21, .ref 23, .ref 24, .ref 25])).set 14 (ai_obj 5 [.ref 15, .int 0, .ref 16, .int (nI 0), .ref 17, .int (nI B.length), .int (nI n3), .ref 18, .ref 19, .ref 20, .int 0, .int 0, .ref 21, .ref 22, v14, .int (nI dp), .int (nI kd), v17, v18, v19, v20, v21, .ref 23, .ref 24, .ref 25])).set 14 (ai_obj 5 [.ref 15, .int 0, .ref 16, .int (nI 0), .ref 17, .int (nI B.length), .int (nI n3), .ref 18, .ref 19, .ref 20, .int 0, .int 0, .ref 21, .ref 22, .int 0, .int (nI dp), .int (nI kd), v17, v18, v19, v20, v21, .ref 23, .ref 24, .ref 25]), h3.2)) rfl ?_
    refine qg_putf rfl (q_set (q_set (q_set o3))) rfl rfl (Nat.le_of_ble_eq_true rfl) rfl ?_
    refine qg_pls (n := 2) (k' := 42) (lo' := [some (.ref 14), some (.int (nI B.length))]) (S' := [.int 0, .ref 14]) (h' := ((((h3.1.set 14 (ai_obj 5 [.ref 15, .int 0, .ref 16, .int (nI 0), .ref 17, .int (nI B.length), .int (nI n3), .ref 18, .ref 19, .ref 20, .int 0, .int (nI J.length), .ref 21, .ref 22, v14, .int (nI dp), .int (nI kd), v17, v18, v19, v20, v21, .ref 23, .ref 24, .ref 25])).set 14 (ai_obj 5 [.ref 15, .int 0, .ref 16, .int (nI 0), .ref 17, .int (nI B.length), .int (nI n3), .ref 18, .ref 19, .ref 20, .int 0, .int 0, .ref 21, .ref 22, v14, .int (nI dp), .int (nI kd), v17, v18, v19, v20, v21, .ref 23, .ref 24, .ref 25])).set 14 (ai_obj 5 [.ref 15, .int 0, .ref 16, .int (nI 0), .ref 17, .int (nI B.length), .int (nI n3), .ref 18, .ref 19, .ref 20, .int 0, .int 0, .ref 21, .ref 22, .int 0, .int (nI dp), .int (nI kd), v17, v18, v19, v20, v21, .ref 23, .ref 24, .ref 25])).set 14 (ai_obj 5 [.ref 15, .int 0, .ref 16, .int (nI 0), .ref 17, .int (nI B.length), .int (nI n3), .ref 18, .ref 19, .ref 20, .int 0, .int 0, .ref 21, .ref 22, .int 0, .int (nI dp), .int (nI kd), v17, v18, v19, v20, .int 0, .ref 23, .ref 24, .ref 25]), h3.2)) rfl ?_
    refine qg_putf rfl (q_set (q_set (q_set (q_set o3)))) rfl rfl (Nat.le_of_ble_eq_true rfl) rfl ?_
    refine qg_pls (n := 2) (k' := 45) (lo' := [some (.ref 14), some (.int (nI B.length))]) (S' := [.int 0, .ref 14]) (h' := (((((h3.1.set 14 (ai_obj 5 [.ref 15, .int 0, .ref 16, .int (nI 0), .ref 17, .int (nI B.length), .int (nI n3), .ref 18, .ref 19, .ref 20, .int 0, .int (nI J.length), .ref 21, .ref 22, v14, .int (nI dp), .int (nI kd), v17, v18, v19, v20, v21, .ref 23, .ref 24, .ref 25])).set 14 (ai_obj 5 [.ref 15, .int 0, .ref 16, .int (nI 0), .ref 17, .int (nI B.length), .int (nI n3), .ref 18, .ref 19, .ref 20, .int 0, .int 0, .ref 21, .ref 22, v14, .int (nI dp), .int (nI kd), v17, v18, v19, v20, v21, .ref 23, .ref 24, .ref 25])).set 14 (ai_obj 5 [.ref 15, .int 0, .ref 16, .int (nI 0), .ref 17, .int (nI B.length), .int (nI n3), .ref 18, .ref 19, .ref 20, .int 0, .int 0, .ref 21, .ref 22, .int 0, .int (nI dp), .int (nI kd), v17, v18, v19, v20, v21, .ref 23, .ref 24, .ref 25])).set 14 (ai_obj 5 [.ref 15, .int 0, .ref 16, .int (nI 0), .ref 17, .int (nI B.length), .int (nI n3), .ref 18, .ref 19, .ref 20, .int 0, .int 0, .ref 21, .ref 22, .int 0, .int (nI dp), .int (nI kd), v17, v18, v19, v20, .int 0, .ref 23, .ref 24, .ref 25])).set 14 (ai_obj 5 [.ref 15, .int 0, .ref 16, .int (nI 0), .ref 17, .int (nI B.length), .int (nI n3), .ref 18, .ref 19, .ref 20, .int 0, .int 0, .ref 21, .ref 22, .int 0, .int 0, .int (nI kd), v17, v18, v19, v20, .int 0, .ref 23, .ref 24, .ref 25]), h3.2)) rfl ?_
    refine qg_putf rfl (q_set (q_set (q_set (q_set (q_set o3))))) rfl rfl (Nat.le_of_ble_eq_true rfl) rfl ?_
    refine qg_pls (n := 2) (k' := 48) (lo' := [some (.ref 14), some (.int (nI B.length))]) (S' := [.int 0, .ref 14]) (h' := ((((((h3.1.set 14 (ai_obj 5 [.ref 15, .int 0, .ref 16, .int (nI 0), .ref 17, .int (nI B.length), .int (nI n3), .ref 18, .ref 19, .ref 20, .int 0, .int (nI J.length), .ref 21, .ref 22, v14, .int (nI dp), .int (nI kd), v17, v18, v19, v20, v21, .ref 23, .ref 24, .ref 25])).set 14 (ai_obj 5 [.ref 15, .int 0, .ref 16, .int (nI 0), .ref 17, .int (nI B.length), .int (nI n3), .ref 18, .ref 19, .ref 20, .int 0, .int 0, .ref 21, .ref 22, v14, .int (nI dp), .int (nI kd), v17, v18, v19, v20, v21, .ref 23, .ref 24, .ref 25])).set 14 (ai_obj 5 [.ref 15, .int 0, .ref 16, .int (nI 0), .ref 17, .int (nI B.length), .int (nI n3), .ref 18, .ref 19, .ref 20, .int 0, .int 0, .ref 21, .ref 22, .int 0, .int (nI dp), .int (nI kd), v17, v18, v19, v20, v21, .ref 23, .ref 24, .ref 25])).set 14 (ai_obj 5 [.ref 15, .int 0, .ref 16, .int (nI 0), .ref 17, .int (nI B.length), .int (nI n3), .ref 18, .ref 19, .ref 20, .int 0, .int 0, .ref 21, .ref 22, .int 0, .int (nI dp), .int (nI kd), v17, v18, v19, v20, .int 0, .ref 23, .ref 24, .ref 25])).set 14 (ai_obj 5 [.ref 15, .int 0, .ref 16, .int (nI 0), .ref 17, .int (nI B.length), .int (nI n3), .ref 18, .ref 19, .ref 20, .int 0, .int 0, .ref 21, .ref 22, .int 0, .int 0, .int (nI kd), v17, v18, v19, v20, .int 0, .ref 23, .ref 24, .ref 25])).set 14 (ai_obj 5 [.ref 15, .int 0, .ref 16, .int (nI 0), .ref 17, .int (nI B.length), .int (nI n3), .ref 18, .ref 19, .ref 20, .int 0, .int 0, .ref 21, .ref 22, .int 0, .int 0, .int 0, v17, v18, v19, v20, .int 0, .ref 23, .ref 24, .ref 25]), h3.2)) rfl ?_
    refine qg_putf rfl (q_set (q_set (q_set (q_set (q_set (q_set o3)))))) rfl rfl (Nat.le_of_ble_eq_true rfl) rfl ?_
    rw [List.set_set, List.set_set, List.set_set, List.set_set, List.set_set, List.set_set]
    rw [← hX] at hh4
    show qg L xs _ qm_118 49 [some (.ref 14), some (.int (nI B.length))] [] (h3.1.set 14 (mobj (.int 0, .int (nI 0), .int (nI B.length), .int (nI n3), .int 0, .int 0) 0 0 0 0 v18 v19 v20 0), h3.2) _
    rw [hh4]
    show qg L xs _ qm_118 49 [some (.ref 14), some (.int (nI B.length))] [] h4 _
    refine qg_pls (n := 2) (k' := 51) (lo' := [some (.ref 14), some (.int (nI B.length))]) (S' := [.ref 14, .ref 14]) (h' := h4) rfl ?_
    exact hg
  have hex := mop_mim hsp.1
  have hexq := mim_up (mop_mim hsq.1) (show d + 16 * m ≤ d + 16 * (m + 1) by omega)
  have hqy : mim L xs (zen B) (mYh h4) (mfw (0, 0, [], X, h4.2, [])) (d + 16 * (m + 1)) 133 [.ref 14] 0 (z_query (zen B) (zsp (zen B) m true)) := hsp.2
  obtain ⟨h5, g5, hp5⟩ := m_whole htk hex hexq hqy hc4 hz2
  rw [hD] at g5
  rw [show d + 16 * (m + 1) + 17 = D + 1 by omega]
  have hob4 := (mcs_rcv hc4).choose_spec
  -- cells that stay
  have stay : ∀ {hh : ai_H} (i : Nat), (∀ j c, mYh h4 j = some c → hh.1[j]? = some c) → ¬ (i = 14 ∨ i = 21 ∨ i = 22 ∨ i = 23 ∨ i = 24) → ∀ c, h4.1[i]? = some c → hh.1[i]? = some c := fun i hh hn c hc => hh i c (mYh_of hc hn)
  subst hX
  have hmv4 : ∀ i c, i < 14 ∨ 25 < i → h.1[i]? = some c → h4.1[i]? = some c := fun i c hi hc => by
    rw [k24 i (by omega) (by omega) (by omega) (by omega) (by omega)]; exact hc
  obtain ⟨f1, fk, fz, r18, r19, r20, rtk⟩ := id r4
  cases v with
  | none =>
    obtain ⟨rf5, bf5, wr5, wf5, kp5, op5, wt5, bg5, en5, md5, o5, q21, q22, q23, q24, ⟨b1, b2⟩, hY, n5⟩ := hp5
    have s18 := stay 18 hY (by decide) _ r18
    have e18 := (rtk s2.1 b1).1
    have e18 : f1 s2.1 = nI (zfr (zen B) s2.1) := e18
    have o6 := q_set (y := mob (.int 0) 0 B.length n3 (.int (nI s2.1)) 0 (.int (nI op5)) s2.2.2.1 0 (.int (nI (zfr (zen B) s2.1 + 1))) bg5 en5 md5 (.int (nI wt5))) o5
    have kk : ∀ i, i ≠ 14 → (h5.1.set 14 (mob (.int 0) 0 B.length n3 (.int (nI s2.1)) 0 (.int (nI op5)) s2.2.2.1 0 (.int (nI (zfr (zen B) s2.1 + 1))) bg5 en5 md5 (.int (nI wt5))))[i]? = h5.1[i]? := fun i hi => List.getElem?_set_ne (fun q => hi q.symm)
    refine ⟨(h5.1.set 14 (mob (.int 0) 0 B.length n3 (.int (nI s2.1)) 0 (.int (nI op5)) s2.2.2.1 0 (.int (nI (zfr (zen B) s2.1 + 1))) bg5 en5 md5 (.int (nI wt5))), h5.2), [], road _ ?_, ?_, ?_, Or.inr ?_⟩
    · refine qg_callH rfl rfl rfl rfl rfl rfl rfl (ai_rcv1 rfl rfl hob4) rfl g5 ?_
      show qg L xs D qm_118 54 [some (.ref 14), some (.int (nI B.length))] [.float 0] h5 _
      rw [show zrv (zen B) none s' = zfr (zen B) s2.1 + 1 by rw [hn2 rfl]; rfl]
      refine qg_pls (n := 3) (k' := 57) (lo' := [some (.ref 14), some (.float 0)]) (S' := [.ref 14, .ref 14]) (h' := h5) rfl ?_
      refine qg_getf (v := .ref 18) rfl o5 rfl rfl rfl ?_
      refine qg_pls (n := 1) (k' := 59) (lo' := [some (.ref 14), some (.float 0)]) (S' := [.ref 14, .ref 18, .ref 14]) (h' := h5) rfl ?_
      refine qg_getf (v := .int (nI s2.1)) rfl o5 rfl rfl rfl ?_
      refine qg_ald rfl (fun _ _ _ => rfl) s18 (by have := zen_len (t := B); omega) (by decide) ?_
      rw [e18]
      refine qg_pls (n := 2) (k' := 63) (lo' := [some (.ref 14), some (.float 0)]) (S' := [.int ((nI (zfr (zen B) s2.1)) + 1), .ref 14]) (h' := h5) rfl ?_
      rw [nI_1]
      refine qg_putf rfl o5 rfl rfl (Nat.le_of_ble_eq_true rfl) rfl ?_
      refine qg_pls (n := 2) (k' := 66) (lo' := [some (.ref 14), some (.float 0)]) (S' := [.int 0, .ref 14]) (h' := (h5.1.set 14 (ai_obj 5 [.ref 15, .int 0, .ref 16, .int (nI 0), .ref 17, .int (nI B.length), .int (nI n3), .ref 18, .ref 19, .ref 20, .int (nI s2.1), .int (nI kp5), .ref 21, .ref 22, .int (nI op5), .int (nI s2.2.2.1), .int 0, .int (nI (zfr (zen B) s2.1 + 1)), bg5, en5, md5, .int (nI wt5), .ref 23, .ref 24, .ref 25]), h5.2)) rfl ?_
      refine qg_putf rfl (q_set o5) rfl rfl (Nat.le_of_ble_eq_true rfl) rfl ?_
      rw [List.set_set]
      show qg L xs _ qm_118 67 [some (.ref 14), some (.float 0)] [] (h5.1.set 14 (mob (.int 0) 0 B.length n3 (.int (nI s2.1)) 0 (.int (nI op5)) s2.2.2.1 0 (.int (nI (zfr (zen B) s2.1 + 1))) bg5 en5 md5 (.int (nI wt5))), h5.2) _
      refine qg_pls (n := 1) (k' := 68) (lo' := [some (.ref 14), some (.float 0)]) (S' := [.ref 14]) (h' := (h5.1.set 14 (mob (.int 0) 0 B.length n3 (.int (nI s2.1)) 0 (.int (nI op5)) s2.2.2.1 0 (.int (nI (zfr (zen B) s2.1 + 1))) bg5 en5 md5 (.int (nI wt5))), h5.2)) rfl ?_
      refine qg_getf (v := .int (nI (zfr (zen B) s2.1 + 1))) rfl o6 rfl rfl rfl ?_
      exact qg_ret5 rfl rfl rfl
    · refine ⟨n3, .int 0, .int (nI s2.1), .int (nI op5), .int (nI (zfr (zen B) s2.1 + 1)), bg5, en5, md5, .int (nI wt5), tb, fB, rf5, bf5, wr5, wf5, sn, ?_, ?_, ?_, ⟨Nat.zero_le _, (fun j hj => absurd hj (Nat.not_lt_zero _)), (fun x hx => by cases hx)⟩, ?_, hby, ⟨f1, ?_⟩, ⟨fk, ?_⟩, ⟨fz, ?_⟩, ?_, ?_, ?_, ?_, ?_, fun q => absurd rfl q, (fun k a ha => by cases ha), rfl, Nat.zero_le _⟩
      · rw [← hd2]; exact o6
      · obtain ⟨gw, q1, q2⟩ := w4
        exact ⟨gw, by rw [kk 15 (by decide)]; exact stay 15 hY (by decide) _ q1, q2⟩
      · rw [kk 16 (by decide)]
        refine stay 16 hY (by decide) _ ?_
        rw [k24 16 (by decide) (by decide) (by decide) (by decide) (by decide)]; exact c16
      · rw [kk 17 (by decide)]; exact stay 17 hY (by decide) _ t4
      · rw [kk 18 (by decide)]; exact s18
      · rw [kk 19 (by decide)]; exact stay 19 hY (by decide) _ r19
      · rw [kk 20 (by decide)]; exact stay 20 hY (by decide) _ r20
      · rw [kk 21 (by decide)]; exact q21
      · rw [kk 22 (by decide)]; exact q22
      · rw [kk 23 (by decide)]; exact q23
      · rw [kk 24 (by decide)]; exact q24
      · rw [kk 25 (by decide)]
        refine stay 25 hY (by decide) _ ?_
        rw [k24 25 (by decide) (by decide) (by decide) (by decide) (by decide)]; exact c25
    · intro i c hi hc
      show (h5.1.set 14 _)[i]? = _
      rw [kk i (by omega)]
      exact stay i hY (by omega) c (hmv4 i c hi hc)
    · rw [n5, ← n4]
  | some k =>
    obtain ⟨J5, bg5, en5, md5, rf5, bf5, wr5, wf5, o5, q21, q22, q23, q24, q6, q7, q8, qu, q9, q10, q11, hY, -, n5⟩ := hp5
    obtain ⟨hpl, hne⟩ := hp2 k rfl
    have hfr := mtk_fr htk s2.1
    have hj1 : jsum J5 + 1 ≤ zfr (zen B) s2.1 := q10.2.1
    have hj2 : J5.length + 0 ≤ 2 * zfr (zen B) s2.1 := q10.1
    have o6 := q_set (y := mob (.int 0) 0 B.length n3 (.int (nI s2.1)) J5.length (.int (nI s2.2.1)) s2.2.2.1 k (.int 0) bg5 en5 md5 (.int (nI 0))) o5
    have kk : ∀ i, i ≠ 14 → (h5.1.set 14 (mob (.int 0) 0 B.length n3 (.int (nI s2.1)) J5.length (.int (nI s2.2.1)) s2.2.2.1 k (.int 0) bg5 en5 md5 (.int (nI 0))))[i]? = h5.1[i]? := fun i hi => List.getElem?_set_ne (fun q => hi q.symm)
    refine ⟨(h5.1.set 14 (mob (.int 0) 0 B.length n3 (.int (nI s2.1)) J5.length (.int (nI s2.2.1)) s2.2.2.1 k (.int 0) bg5 en5 md5 (.int (nI 0))), h5.2), J5, road _ ?_, ?_, ?_, Or.inl ?_⟩
    · skip
      refine qg_call (v := some (.int (nI k))) (h' := h5) (as := [.ref 14]) rfl rfl rfl rfl rfl rfl rfl (ai_rcv1 rfl rfl hob4) (g5) ?_
      show qg L xs _ qm_118 52 [some (.ref 14), some (.int (nI B.length))] [.int (nI k), .ref 14] h5 _
      refine qg_putf rfl o5 rfl rfl (Nat.le_of_ble_eq_true rfl) rfl ?_
      refine qg_pls (n := 2) (k' := 68) (lo' := [some (.ref 14), some (.int (nI B.length))]) (S' := [.ref 14]) (h' := (h5.1.set 14 (ai_obj 5 [.ref 15, .int 0, .ref 16, .int (nI 0), .ref 17, .int (nI B.length), .int (nI n3), .ref 18, .ref 19, .ref 20, .int (nI s2.1), .int (nI J5.length), .ref 21, .ref 22, .int (nI s2.2.1), .int (nI s2.2.2.1), .int (nI k), .int 0, bg5, en5, md5, .int (nI 0), .ref 23, .ref 24, .ref 25]), h5.2)) rfl ?_
      refine qg_getf (v := .int 0) rfl (q_set o5) rfl rfl rfl ?_
      exact qg_ret5 rfl rfl rfl
    · refine ⟨n3, .int 0, .int (nI s2.1), .int (nI s2.2.1), .int 0, bg5, en5, md5, .int (nI 0), tb, fB, rf5, bf5, wr5, wf5, sn, ?_, ?_, ?_, ⟨Nat.zero_le _, (fun j hj => absurd hj (Nat.not_lt_zero _)), (fun x hx => by cases hx)⟩, ?_, hby, ⟨f1, ?_⟩, ⟨fk, ?_⟩, ⟨fz, ?_⟩, ?_, ?_, ?_, ?_, ?_, fun _ => ⟨f1, fk, fz, ?_, ?_, ?_, rtk⟩, fun i a ha => ?_, ?_, by omega⟩
      · rw [← hd2]; exact o6
      · obtain ⟨gw, q1, q2⟩ := w4
        exact ⟨gw, by rw [kk 15 (by decide)]; exact stay 15 hY (by decide) _ q1, q2⟩
      · rw [kk 16 (by decide)]
        refine stay 16 hY (by decide) _ ?_
        rw [k24 16 (by decide) (by decide) (by decide) (by decide) (by decide)]; exact c16
      · rw [kk 17 (by decide)]; exact stay 17 hY (by decide) _ t4
      · rw [kk 18 (by decide)]; exact stay 18 hY (by decide) _ r18
      · rw [kk 19 (by decide)]; exact stay 19 hY (by decide) _ r19
      · rw [kk 20 (by decide)]; exact stay 20 hY (by decide) _ r20
      · rw [kk 21 (by decide)]; exact q21
      · rw [kk 22 (by decide)]; exact q22
      · rw [kk 23 (by decide)]; exact q23
      · rw [kk 24 (by decide)]; exact q24
      · rw [kk 25 (by decide)]
        refine stay 25 hY (by decide) _ ?_
        rw [k24 25 (by decide) (by decide) (by decide) (by decide) (by decide)]; exact c25
      · rw [kk 18 (by decide)]; exact stay 18 hY (by decide) _ r18
      · rw [kk 19 (by decide)]; exact stay 19 hY (by decide) _ r19
      · rw [kk 20 (by decide)]; exact stay 20 hY (by decide) _ r20
      · obtain ⟨u1, u2, u3, u4, u5⟩ := q7 i a ha
        have hj := jsum_mem ha
        exact ⟨u1, u2, u3, by omega, u5⟩
      · show s'.2.2.2.2 = _
        rw [hpl, q6]
    · intro i c hi hc
      show (h5.1.set 14 _)[i]? = _
      rw [kk i (by omega)]
      exact stay i hY (by omega) c (hmv4 i c hi hc)
    · rw [n5, ← n4]
end MRG
