/-! THE LAW'S STEPS: read, again. (Printed by wip/whole/pp.py from wip/whole/src.) -/
section LAZ
variable {L : Nat} {xs : Nat → Int32} {h : ai_H} {C S : Nat}
theorem zread_99 {e : zE} {v : Option Nat} {s' : zS} (hz : zread e 90 = some (v, s')) (h9 : ztk e 0 = 99) : v = none := by
  have e1 : z_stmt e (zsp e 90 true) (zsp e 90 false) (0, 0, 0, 0, []) = some (none, (0, 0, 0, 0, [])) := by
    unfold z_stmt
    simp only [h9]
    rfl
  unfold zread at hz
  rw [e1] at hz
  cases hz
  rfl
theorem l_read (hl : qlI h C S) : ∃ h', qlI h' (C + 128) (S + 12) ∧ ∀ i x5 x6 o, qg L xs 2000 qm_law 193 [some (.retAddr 3002), some (.ref 0), some (.ref 14), some (.ref 26), some i, x5, x6] [] h' o → qg L xs 2000 qm_law 109 [some (.retAddr 3002), some (.ref 0), some (.ref 14), some (.ref 26), some i, x5, x6] [] h o := by
  obtain ⟨B, Q, mx, kd, J, T, hj, h0⟩ := hl
  obtain ⟨⟨tb, tl, pb, pl, so, fr, to, n, hs⟩, hm0, f, c26⟩ := qlj_s hj
  have hB : B.length ≤ 65536 ∧ ∀ x ∈ B, zb x = x := by
    obtain ⟨_, _, _, _, _, _, _, _, _, _, _, _, _, _, _, _, -, -, -, cB, -⟩ := hm0
    exact ⟨cB.1, cB.2.2⟩
  obtain ⟨v, s', hz, hb⟩ := zread_t hB.1 hB.2
  obtain ⟨h1, g1, hj1⟩ := qlj_c (R := fun h' => qe L xs 2000 5 [.ref 0] h (.inl (some (.int (nI (zrv (zen B) v s')))), h')) (B' := []) (Q' := zrq v s') (mx' := s'.2.2.1) (kd' := zrk v) hj (fun tb tl pb pl so fr to n hs => by
    obtain ⟨h', pb', pl', so', fr', to', n', a1, a2, a3⟩ := q_read (L := L) (xs := xs) (d := 0) hs hB.1 hz hb
    exact ⟨h', tb, tl, pb', pl', so', fr', to', n', qe_up (by omega) a1, a2, a3⟩)
  obtain ⟨-, hm1, -⟩ := qlj_s hj1
  obtain ⟨h', ⟨J', g2⟩, hj2⟩ : ∃ h', (∃ J' : List zJ, qe L xs 2000 118 [.ref 14] h1 (.inl (some (.int (nI (zrv (zen B) v s')))), h')) ∧ ∃ J', qlj h' [] (zrq v s') s'.2.2.1 (zrk v) [] (zrq v s') (zrk v) s'.2.2.1 J' B (C + 128) (S + 12) := by
    obtain ⟨h', J', a1, a2, a3, a4⟩ := m_read (L := L) (xs := xs) (d := 0) (m := 89) (by decide) hm1 hz
    obtain ⟨h2, g2, hj2⟩ := qlj_m (R := fun h2 => h2 = h') hj1 (fun _ => ⟨h', rfl, a2, a3, a4⟩)
    subst g2
    exact ⟨h2, ⟨J', qe_up (by omega) a1⟩, J', hj2⟩
  obtain ⟨J2, hj2⟩ := hj2
  have c0 := qst_c0 hs
  obtain ⟨cn, v1, v10, v14, v17, v18, v19, v20, v21, c14, -⟩ := mst_th hm1
  refine ⟨h', ⟨[], zrq v s', s'.2.2.1, zrk v, J2, B, hj2, fun hq h9 => ?_⟩, fun i x5 x6 o hg => ?_⟩
  · have := zread_99 hz h9
    subst this
    exact hq rfl
  · skip
    refine qg_pls (n := 1) (k' := 110) (lo' := [some (.retAddr 3002), some (.ref 0), some (.ref 14), some (.ref 26), some (i), x5, x6]) (S' := [.ref 0]) (h' := h) rfl ?_
    refine qg_call (v := some (.int (nI (zrv (zen B) v s')))) (h' := h1) (as := [.ref 0]) rfl rfl rfl rfl rfl rfl rfl (ai_rcv1 rfl rfl c0) (g1) ?_
    show qg L xs _ qm_law 111 [some (.retAddr 3002), some (.ref 0), some (.ref 14), some (.ref 26), some (i), x5, x6] [.int (nI (zrv (zen B) v s'))] h1 _
    refine qg_pls (n := 1) (k' := 112) (lo' := [some (.retAddr 3002), some (.ref 0), some (.ref 14), some (.ref 26), some (i), x5, x6]) (S' := [.ref 14, .int (nI (zrv (zen B) v s'))]) (h' := h1) rfl ?_
    refine qg_call (v := some (.int (nI (zrv (zen B) v s')))) (h' := h') (as := [.ref 14]) rfl rfl rfl rfl rfl rfl rfl (ai_rcv1 rfl rfl c14) (g2) ?_
    show qg L xs _ qm_law 113 [some (.retAddr 3002), some (.ref 0), some (.ref 14), some (.ref 26), some (i), x5, x6] [.int (nI (zrv (zen B) v s')), .int (nI (zrv (zen B) v s'))] h' _
    refine qg_icmp true rfl ((qb_eqT rfl)) rfl ?_
    exact hg
theorem l_again (hl : qlI h C S) : ∃ h', qlI h' (C + 128) (S + 12) ∧ ∀ i x5 x6 o, qg L xs 2000 qm_law 193 [some (.retAddr 3002), some (.ref 0), some (.ref 14), some (.ref 26), some i, x5, x6] [] h' o → qg L xs 2000 qm_law 186 [some (.retAddr 3002), some (.ref 0), some (.ref 14), some (.ref 26), some i, x5, x6] [] h o := by
  obtain ⟨B, Q, mx, kd, J, T, hj, h0⟩ := hl
  obtain ⟨⟨tb, tl, pb, pl, so, fr, to, n, hs⟩, hm0, f, c26⟩ := qlj_s hj
  have c0 := qst_c0 hs
  have hQl : Q.length ≤ 524288 := by
    obtain ⟨_, _, _, _, _, _, _, _, -, ⟨_, -, -, q3, ⟨e, e1, e2⟩, -⟩, -⟩ := hs
    have := p2_le e1
    have q5 : 2 ^ 11 = 2048 := rfl
    omega
  by_cases hQ : 0 < Q.length ∧ Q.length ≤ 65536
  · obtain ⟨h1, g1, hj1⟩ := qlj_c (R := fun h' => qe L xs 2000 105 [.ref 0] h (.inl (some (.int 1)), h')) (B' := Q) (Q' := Q) (mx' := mx) (kd' := kd) hj (fun tb tl pb pl so fr to n hs => by
      obtain ⟨h', tb', tl', a1, a2, a3⟩ := q_againY (L := L) (xs := xs) (d := 0) hs hQ.1 hQ.2
      exact ⟨h', tb', tl', pb, pl, so, fr, to, n, qe_up (by omega) a1, a2, a3⟩)
    obtain ⟨-, hm1, -⟩ := qlj_s hj1
    obtain ⟨h', g2, hj2⟩ := qlj_m (R := fun h' => qe L xs 2000 199 [.ref 14] h1 (.inl (some (.int 1)), h')) hj1 (fun hm => by
      obtain ⟨h', a1, a2, a3, a4⟩ := m_againY (L := L) (xs := xs) (d := 0) hm hQ.1 hQ.2
      exact ⟨h', qe_up (by omega) a1, a2, a3, Or.inl a4⟩)
    obtain ⟨cn, v1, v10, v14, v17, v18, v19, v20, v21, c14, -⟩ := mst_th hm1
    refine ⟨h', ⟨Q, Q, mx, kd, J, T, qlj_le hj2 (by omega) (by omega), h0⟩, fun i x5 x6 o hg => ?_⟩
    refine qg_pls (n := 1) (k' := 187) (lo' := [some (.retAddr 3002), some (.ref 0), some (.ref 14), some (.ref 26), some (i), x5, x6]) (S' := [.ref 0]) (h' := h) rfl ?_
    refine qg_call (v := some (.int 1)) (h' := h1) (as := [.ref 0]) rfl rfl rfl rfl rfl rfl rfl (ai_rcv1 rfl rfl c0) (g1) ?_
    show qg L xs _ qm_law 188 [some (.retAddr 3002), some (.ref 0), some (.ref 14), some (.ref 26), some (i), x5, x6] [.int 1] h1 _
    refine qg_pls (n := 1) (k' := 189) (lo' := [some (.retAddr 3002), some (.ref 0), some (.ref 14), some (.ref 26), some (i), x5, x6]) (S' := [.ref 14, .int 1]) (h' := h1) rfl ?_
    refine qg_call (v := some (.int 1)) (h' := h') (as := [.ref 14]) rfl rfl rfl rfl rfl rfl rfl (ai_rcv1 rfl rfl c14) (g2) ?_
    show qg L xs _ qm_law 190 [some (.retAddr 3002), some (.ref 0), some (.ref 14), some (.ref 26), some (i), x5, x6] [.int 1, .int 1] h' _
    refine qg_icmp true rfl ((qb_eqT rfl)) rfl ?_
    exact hg
  · have g1 : qe L xs 2000 105 [.ref 0] h (.inl (some (.int 0)), h) := qe_up (by omega) (q_againN (L := L) (xs := xs) (d := 0) hs (by omega))
    obtain ⟨h', g2, hj2⟩ := qlj_m (R := fun h' => qe L xs 2000 199 [.ref 14] h (.inl (some (.int 0)), h')) hj (fun hm => by
      obtain ⟨h', a1, a2, a3, a4⟩ := m_againN (L := L) (xs := xs) (d := 0) hm (by omega) (by omega)
      exact ⟨h', qe_up (by omega) a1, a2, a3, Or.inl a4⟩)
    obtain ⟨cn, v1, v10, v14, v17, v18, v19, v20, v21, c14, -⟩ := mst_th hm0
    refine ⟨h', ⟨B, Q, mx, kd, J, T, qlj_le hj2 (by omega) (by omega), h0⟩, fun i x5 x6 o hg => ?_⟩
    refine qg_pls (n := 1) (k' := 187) (lo' := [some (.retAddr 3002), some (.ref 0), some (.ref 14), some (.ref 26), some (i), x5, x6]) (S' := [.ref 0]) (h' := h) rfl ?_
    refine qg_call (v := some (.int 0)) (h' := h) (as := [.ref 0]) rfl rfl rfl rfl rfl rfl rfl (ai_rcv1 rfl rfl c0) (g1) ?_
    show qg L xs _ qm_law 188 [some (.retAddr 3002), some (.ref 0), some (.ref 14), some (.ref 26), some (i), x5, x6] [.int 0] h _
    refine qg_pls (n := 1) (k' := 189) (lo' := [some (.retAddr 3002), some (.ref 0), some (.ref 14), some (.ref 26), some (i), x5, x6]) (S' := [.ref 14, .int 0]) (h' := h) rfl ?_
    refine qg_call (v := some (.int 0)) (h' := h') (as := [.ref 14]) rfl rfl rfl rfl rfl rfl rfl (ai_rcv1 rfl rfl c14) (g2) ?_
    show qg L xs _ qm_law 190 [some (.retAddr 3002), some (.ref 0), some (.ref 14), some (.ref 26), some (i), x5, x6] [.int 0, .int 0] h' _
    refine qg_icmp true rfl ((qb_eqT rfl)) rfl ?_
    exact hg
end LAZ
