/-! KEEPING. (Printed by wip/whole/pp.py from wip/whole/src.) -/
section MKF
variable {L : Nat} {xs : Nat → Int32} {d : Nat} {h h' : ai_H} {e : zE} {Y : Nat → Option ai_C} {K : mK} {W P : zK} {s s' : zS} {J : List zJ} {bg en md : Value}
theorem mtk_next (ht : mtk e Y) {i : Nat} (hk : ztk e i < 102) : i + 1 < e.1.length ∧ zfr e i < zto e i ∧ zto e i ≤ zfr e (i + 1) := by
  obtain ⟨gw, ft, f1, fk, fz, t1, t2, t3, t4, t5, t6, t7, t8, t9, t10, t11⟩ := ht
  rw [t11] at hk ⊢
  exact zen_next (by omega)
theorem mtk_fr (ht : mtk e Y) (i : Nat) : zfr e i ≤ 65536 := by
  obtain ⟨gw, ft, f1, fk, fz, t1, t2, t3, t4, t5, t6, t7, t8, t9, t10, t11⟩ := ht
  have := zen_ft (t := e.2) i
  rw [← t11] at this
  omega
/-- QueryReaderModel.keep -/
theorem m_keep (ht : mtk e Y) (hc : mcs0 e Y K W s h J bg en md) (hk : ztk e s.1 < 102) {c' g' : Nat} (hc' : c' ≤ K.1 + (zto e s.1 - zfr e s.1)) (hg' : g' + 1 ≤ K.2.1 + 2 * (zto e s.1 - zfr e s.1)) : ∃ h', qe L xs (d + 1) 136 [.ref 14] h (.inl none, h') ∧ mcs0 e Y (c', g', K.2.2) W (s.1 + 1, s.2.1, s.2.2.1, s.2.2.2.1, s.2.2.2.2 ++ zit e s.1 ++ [32]) h' (J ++ [(nI s.1, zit e s.1, 0, 0)]) bg en md := by
  obtain ⟨n1, n2, n3⟩ := mtk_next ht hk
  have hfr := mtk_fr ht s.1
  have hlt := mtk_lt ht s.1
  have hfr1 := mtk_fr ht (s.1 + 1)
  obtain ⟨fk, -, -, hN⟩ := mtk_so ht
  obtain ⟨rf, bf, wr, wf, c1, c2, c3, c4, c5, c6, c7, c8, cu, c9, c10, c11, c12, ⟨y14, y21, y22, y23, y24⟩, c14⟩ := hc
  have hJ : J.length < 131072 := by omega
  have a1 := q_stay (x := ai_num .int 131072 (upd rf J.length (nI s.1))) c1 (show 21 ≠ 14 by decide)
  have a3 := q_stay (x := ai_num .int 131072 (upd rf J.length (nI s.1))) c3 (show 21 ≠ 22 by decide)
  have b1 := q_stay (x := ai_num .int 131072 (upd bf J.length 0)) a1 (show 22 ≠ 14 by decide)
  have hend : jn K.2.2.1 W J J.length = 0 := jn_end (fun q hq => by
    obtain ⟨i, -, -, k, k1, -, k2⟩ := rev_mem c8 q hq
    exact ⟨k, k1, k2⟩) cu.1
  refine ⟨(((h.1.set 21 (ai_num .int 131072 (upd rf J.length (nI s.1)))).set 22 (ai_num .int 131072 (upd bf J.length 0))).set 14 (mobj K.2.2.2.1 (s.1 + 1) (J.length + 1) s.2.1 s.2.2.1 bg en md W.length), h.2), ?_, upd rf J.length (nI s.1), upd bf J.length 0, wr, wf, ?_, ?_, ?_, ?_, ?_, ?_, fun k a ha => ?_, fun i q hq => ?_, ⟨fun u hu => ?_, fun m hm => ?_⟩, ⟨n1, c9.2.1, c9.2.2.1, c9.2.2.2.1, c9.2.2.2.2⟩, ⟨?_, ?_, c10.2.2⟩, fun a ha => ?_, fun i c hi => ?_, ⟨y14, y21, y22, y23, y24⟩, c14⟩
  · skip
    refine qe_of (M := qm_136) rfl rfl ?_
    show qg L xs _ qm_136 0 [some (.ref 14)] [] h _
    refine qg_pls (n := 1) (k' := 1) (lo' := [some (.ref 14)]) (S' := [.ref 14]) (h' := h) rfl ?_
    refine qg_getf (v := .ref 21) rfl c1 rfl rfl rfl ?_
    refine qg_pls (n := 1) (k' := 3) (lo' := [some (.ref 14)]) (S' := [.ref 14, .ref 21]) (h' := h) rfl ?_
    refine qg_getf (v := .int (nI J.length)) rfl c1 rfl rfl rfl ?_
    refine qg_pls (n := 1) (k' := 5) (lo' := [some (.ref 14)]) (S' := [.ref 14, .int (nI J.length), .ref 21]) (h' := h) rfl ?_
    refine qg_getf (v := .int (nI s.1)) rfl c1 rfl rfl rfl ?_
    refine qg_ast rfl (fun _ _ _ => rfl) c2 (by omega) (by decide) ?_
    show qg L xs _ qm_136 7 [some (.ref 14)] [] (h.1.set 21 (ai_num .int 131072 (upd rf J.length (nI s.1))), h.2) _
    refine qg_pls (n := 1) (k' := 8) (lo' := [some (.ref 14)]) (S' := [.ref 14]) (h' := (h.1.set 21 (ai_num .int 131072 (upd rf J.length (nI s.1))), h.2)) rfl ?_
    refine qg_getf (v := .ref 22) rfl a1 rfl rfl rfl ?_
    refine qg_pls (n := 1) (k' := 10) (lo' := [some (.ref 14)]) (S' := [.ref 14, .ref 22]) (h' := (h.1.set 21 (ai_num .int 131072 (upd rf J.length (nI s.1))), h.2)) rfl ?_
    refine qg_getf (v := .int (nI J.length)) rfl a1 rfl rfl rfl ?_
    refine qg_pls (n := 1) (k' := 12) (lo' := [some (.ref 14)]) (S' := [.int 0, .int (nI J.length), .ref 22]) (h' := (h.1.set 21 (ai_num .int 131072 (upd rf J.length (nI s.1))), h.2)) rfl ?_
    refine qg_ast rfl (fun _ _ _ => rfl) a3 (by omega) (by decide) ?_
    show qg L xs _ qm_136 13 [some (.ref 14)] [] ((h.1.set 21 (ai_num .int 131072 (upd rf J.length (nI s.1)))).set 22 (ai_num .int 131072 (upd bf J.length 0)), h.2) _
    refine qg_pls (n := 2) (k' := 15) (lo' := [some (.ref 14)]) (S' := [.ref 14, .ref 14]) (h' := ((h.1.set 21 (ai_num .int 131072 (upd rf J.length (nI s.1)))).set 22 (ai_num .int 131072 (upd bf J.length 0)), h.2)) rfl ?_
    refine qg_getf (v := .int (nI J.length)) rfl b1 rfl rfl rfl ?_
    refine qg_pls (n := 2) (k' := 18) (lo' := [some (.ref 14)]) (S' := [.int ((nI J.length) + 1), .ref 14]) (h' := ((h.1.set 21 (ai_num .int 131072 (upd rf J.length (nI s.1)))).set 22 (ai_num .int 131072 (upd bf J.length 0)), h.2)) rfl ?_
    rw [show nI J.length + 1 = nI (J.length + 1) from nI_1 _]
    refine qg_putf rfl b1 rfl rfl (Nat.le_of_ble_eq_true rfl) rfl ?_
    refine qg_pls (n := 2) (k' := 21) (lo' := [some (.ref 14)]) (S' := [.ref 14, .ref 14]) (h' := (((h.1.set 21 (ai_num .int 131072 (upd rf J.length (nI s.1)))).set 22 (ai_num .int 131072 (upd bf J.length 0))).set 14 (ai_obj 5 [.ref 15, K.2.2.2.1.1, .ref 16, K.2.2.2.1.2.1, .ref 17, K.2.2.2.1.2.2.1, K.2.2.2.1.2.2.2.1, .ref 18, .ref 19, .ref 20, .int (nI s.1), .int (nI (J.length + 1)), .ref 21, .ref 22, .int (nI s.2.1), .int (nI s.2.2.1), K.2.2.2.1.2.2.2.2.1, K.2.2.2.1.2.2.2.2.2, bg, en, md, .int (nI W.length), .ref 23, .ref 24, .ref 25]), h.2)) rfl ?_
    refine qg_getf (v := .int (nI s.1)) rfl (q_set b1) rfl rfl rfl ?_
    refine qg_pls (n := 2) (k' := 24) (lo' := [some (.ref 14)]) (S' := [.int ((nI s.1) + 1), .ref 14]) (h' := (((h.1.set 21 (ai_num .int 131072 (upd rf J.length (nI s.1)))).set 22 (ai_num .int 131072 (upd bf J.length 0))).set 14 (ai_obj 5 [.ref 15, K.2.2.2.1.1, .ref 16, K.2.2.2.1.2.1, .ref 17, K.2.2.2.1.2.2.1, K.2.2.2.1.2.2.2.1, .ref 18, .ref 19, .ref 20, .int (nI s.1), .int (nI (J.length + 1)), .ref 21, .ref 22, .int (nI s.2.1), .int (nI s.2.2.1), K.2.2.2.1.2.2.2.2.1, K.2.2.2.1.2.2.2.2.2, bg, en, md, .int (nI W.length), .ref 23, .ref 24, .ref 25]), h.2)) rfl ?_
    rw [show nI s.1 + 1 = nI (s.1 + 1) from nI_1 _]
    refine qg_putf rfl (q_set b1) rfl rfl (Nat.le_of_ble_eq_true rfl) rfl ?_
    rw [List.set_set]
    exact qg_ret7 rfl
  · rw [List.length_append]
    exact q_set b1
  · exact q_stay (q_stay (q_set c2) (by decide)) (by decide)
  · exact q_stay (q_set a3) (by decide)
  · exact q_stay (q_stay (q_stay c4 (by decide)) (by decide)) (by decide)
  · exact q_stay (q_stay (q_stay c5 (by decide)) (by decide)) (by decide)
  · show s.2.2.2.2 ++ zit e s.1 ++ [32] = _
    rw [jr_add, c6]
  · rcases Nat.lt_or_ge k J.length with q | q
    · rw [List.getElem?_append_left q] at ha
      obtain ⟨w1, w2, w3, w4, w5⟩ := c7 k a ha
      unfold upd
      rw [if_neg (by omega), if_neg (by omega), jn_app (by omega)]
      exact ⟨w1, w2, w3, w4, w5⟩
    · have hk2 : k = J.length := by
        have := (List.getElem?_eq_some_iff.mp ha).1
        rw [List.length_append] at this
        simp only [List.length_cons, List.length_nil] at this
        omega
      subst hk2
      rw [List.getElem?_append_right (Nat.le_refl _), Nat.sub_self] at ha
      cases ha
      unfold upd
      rw [if_pos rfl, if_pos rfl, jn_app (Nat.le_refl _)]
      have hend : jn (c', g', K.2.2).2.2.1 W J J.length = 0 := hend
      rw [hend]
      exact ⟨rfl, Or.inl ⟨s.1, by omega, hk, rfl, rfl⟩, rfl, Nat.le_refl _, by show 0 ≤ 400; decide⟩
  · obtain ⟨w1, w2, k, k1, k2, k3⟩ := c8 i q hq
    exact ⟨w1, w2, k, by rw [List.length_append]; omega, k2, by rw [jo_app (by omega)]; exact k3⟩
  · obtain ⟨k, k1, k2⟩ := cu.1 u hu
    exact ⟨k, by rw [List.length_append]; omega, by rw [jo_app (by omega)]; exact k2⟩
  · obtain ⟨k1, k2⟩ := cu.2 m hm
    exact ⟨by rw [List.length_append]; omega, by rw [jo_app (by omega)]; exact k2⟩
  · rw [List.length_append]
    show J.length + 1 + g' ≤ 2 * zfr e (s.1 + 1)
    omega
  · rw [jsum_app]
    show jsum J + 0 + c' ≤ zfr e (s.1 + 1)
    omega
  · rw [List.length_append] at ha
    have ha : (J ++ [(nI s.1, zit e s.1, 0, 0)])[J.length]? = some a := ha
    rw [List.getElem?_append_right (Nat.le_refl _), Nat.sub_self] at ha
    cases ha
    show 0 + W.length + K.2.2.1.length ≤ 400
    omega
  · exact q_stay (q_stay (q_stay (c12 i c hi) (fun e => by rw [← e, y21] at hi; cases hi)) (fun e => by rw [← e, y22] at hi; cases hi)) (fun e => by rw [← e, y14] at hi; cases hi)
end MKF
