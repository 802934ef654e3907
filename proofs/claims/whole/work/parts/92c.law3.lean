/-! THE LAW'S STEPS. (Printed by wip/whole/pp.py from wip/whole/src.) -/
section LAY
variable {L : Nat} {xs : Nat → Int32} {h : ai_H} {C S : Nat}
def qlI (h : ai_H) (C S : Nat) : Prop := ∃ B Q mx kd J T, qlj h B Q mx kd B Q kd mx J T C S ∧ (Q ≠ [] → ztk (zen T) 0 ≠ 99)
theorem qlj_s {B Q B2 Q2 T : List Int32} {mx kd kd2 mx2 : Nat} {J : List zJ} (hl : qlj h B Q mx kd B2 Q2 kd2 mx2 J T C S) : (∃ tb tl pb pl so fr to n, qst h B Q mx kd tb tl pb pl so fr to n) ∧ mst h B2 Q2 kd2 mx2 J T ∧ ∃ f, h.1[26]? = some (ai_lng 1 f) := by
  obtain ⟨tb, tl, pb, pl, so, fr, to, n, sb, k, f, hs, hm, -, -, -, c26, -⟩ := hl
  exact ⟨⟨tb, tl, pb, pl, so, fr, to, n, hs⟩, hm, f, c26⟩
theorem l_kind (hl : qlI h C S) : ∃ h', qlI h' (C + 128) (S + 12) ∧ ∀ i x5 x6 o, qg L xs 2000 qm_law 193 [some (.retAddr 3002), some (.ref 0), some (.ref 14), some (.ref 26), some i, x5, x6] [] h' o → qg L xs 2000 qm_law 116 [some (.retAddr 3002), some (.ref 0), some (.ref 14), some (.ref 26), some i, x5, x6] [] h o := by
  obtain ⟨B, Q, mx, kd, J, T, hj, h0⟩ := hl
  obtain ⟨⟨tb, tl, pb, pl, so, fr, to, n, hs⟩, hm0, f, c26⟩ := qlj_s hj
  have g1 : qe L xs 2000 93 [.ref 0] h (.inl (some (.int (nI kd))), h) := qe_up (by omega) (q_kind (d := 0) hs)
  obtain ⟨h', g2, hj2⟩ := qlj_m (R := fun h' => qe L xs 2000 185 [.ref 14] h (.inl (some (.int (nI kd))), h')) hj (fun hm => by
    obtain ⟨h', a1, a2, a3, a4⟩ := m_kind (d := 0) hm
    exact ⟨h', qe_up (by omega) a1, a2, a3, Or.inl a4⟩)
  have c0 := qst_c0 hs
  obtain ⟨cn, v1, v10, v14, v17, v18, v19, v20, v21, c14, -⟩ := mst_th hm0
  refine ⟨h', ⟨B, Q, mx, kd, J, T, qlj_le hj2 (by omega) (by omega), h0⟩, fun i x5 x6 o hg => ?_⟩
  refine qg_pls (n := 1) (k' := 117) (lo' := [some (.retAddr 3002), some (.ref 0), some (.ref 14), some (.ref 26), some (i), x5, x6]) (S' := [.ref 0]) (h' := h) rfl ?_
  refine qg_call (v := some (.int (nI kd))) (h' := h) (as := [.ref 0]) rfl rfl rfl rfl rfl rfl rfl (ai_rcv1 rfl rfl c0) (g1) ?_
  show qg L xs _ qm_law 118 [some (.retAddr 3002), some (.ref 0), some (.ref 14), some (.ref 26), some (i), x5, x6] [.int (nI kd)] h _
  refine qg_pls (n := 1) (k' := 119) (lo' := [some (.retAddr 3002), some (.ref 0), some (.ref 14), some (.ref 26), some (i), x5, x6]) (S' := [.ref 14, .int (nI kd)]) (h' := h) rfl ?_
  refine qg_call (v := some (.int (nI kd))) (h' := h') (as := [.ref 14]) rfl rfl rfl rfl rfl rfl rfl (ai_rcv1 rfl rfl c14) (g2) ?_
  show qg L xs _ qm_law 120 [some (.retAddr 3002), some (.ref 0), some (.ref 14), some (.ref 26), some (i), x5, x6] [.int (nI kd), .int (nI kd)] h' _
  refine qg_icmp true rfl ((qb_eqT rfl)) rfl ?_
  exact hg
theorem l_length (hl : qlI h C S) : ∃ h', qlI h' (C + 128) (S + 12) ∧ ∀ i x5 x6 o, qg L xs 2000 qm_law 193 [some (.retAddr 3002), some (.ref 0), some (.ref 14), some (.ref 26), some i, x5, x6] [] h' o → qg L xs 2000 qm_law 123 [some (.retAddr 3002), some (.ref 0), some (.ref 14), some (.ref 26), some i, x5, x6] [] h o := by
  obtain ⟨B, Q, mx, kd, J, T, hj, h0⟩ := hl
  obtain ⟨⟨tb, tl, pb, pl, so, fr, to, n, hs⟩, hm0, f, c26⟩ := qlj_s hj
  have g1 : qe L xs 2000 94 [.ref 0] h (.inl (some (.int (nI Q.length))), h) := qe_up (by omega) (q_length (d := 0) hs)
  obtain ⟨h', g2, hj2⟩ := qlj_m (R := fun h' => qe L xs 2000 186 [.ref 14] h (.inl (some (.int (nI Q.length))), h')) hj (fun hm => by
    obtain ⟨h', a1, a2, a3, a4⟩ := m_length (d := 0) hm
    exact ⟨h', qe_up (by omega) a1, a2, a3, Or.inl a4⟩)
  have c0 := qst_c0 hs
  obtain ⟨cn, v1, v10, v14, v17, v18, v19, v20, v21, c14, -⟩ := mst_th hm0
  refine ⟨h', ⟨B, Q, mx, kd, J, T, qlj_le hj2 (by omega) (by omega), h0⟩, fun i x5 x6 o hg => ?_⟩
  refine qg_pls (n := 1) (k' := 124) (lo' := [some (.retAddr 3002), some (.ref 0), some (.ref 14), some (.ref 26), some (i), x5, x6]) (S' := [.ref 0]) (h' := h) rfl ?_
  refine qg_call (v := some (.int (nI Q.length))) (h' := h) (as := [.ref 0]) rfl rfl rfl rfl rfl rfl rfl (ai_rcv1 rfl rfl c0) (g1) ?_
  show qg L xs _ qm_law 125 [some (.retAddr 3002), some (.ref 0), some (.ref 14), some (.ref 26), some (i), x5, x6] [.int (nI Q.length)] h _
  refine qg_pls (n := 1) (k' := 126) (lo' := [some (.retAddr 3002), some (.ref 0), some (.ref 14), some (.ref 26), some (i), x5, x6]) (S' := [.ref 14, .int (nI Q.length)]) (h' := h) rfl ?_
  refine qg_call (v := some (.int (nI Q.length))) (h' := h') (as := [.ref 14]) rfl rfl rfl rfl rfl rfl rfl (ai_rcv1 rfl rfl c14) (g2) ?_
  show qg L xs _ qm_law 127 [some (.retAddr 3002), some (.ref 0), some (.ref 14), some (.ref 26), some (i), x5, x6] [.int (nI Q.length), .int (nI Q.length)] h' _
  refine qg_icmp true rfl ((qb_eqT rfl)) rfl ?_
  exact hg
theorem l_mark (hl : qlI h C S) : ∃ h', qlI h' (C + 128) (S + 12) ∧ ∀ i x5 x6 o, qg L xs 2000 qm_law 193 [some (.retAddr 3002), some (.ref 0), some (.ref 14), some (.ref 26), some i, x5, x6] [] h' o → qg L xs 2000 qm_law 165 [some (.retAddr 3002), some (.ref 0), some (.ref 14), some (.ref 26), some i, x5, x6] [] h o := by
  obtain ⟨B, Q, mx, kd, J, T, hj, h0⟩ := hl
  obtain ⟨⟨tb, tl, pb, pl, so, fr, to, n, hs⟩, hm0, f, c26⟩ := qlj_s hj
  have g1 : qe L xs 2000 95 [.ref 0] h (.inl (some (.int (zfold 0 Q))), h) := qe_up (by omega) (q_mark (d := 0) hs (mst_Q hm0).2.1)
  obtain ⟨h', g2, hj2⟩ := qlj_m (R := fun h' => qe L xs 2000 194 [.ref 14] h (.inl (some (.int (zfold 0 Q))), h')) hj (fun hm => by
    obtain ⟨h', a1, a2, a3, a4⟩ := m_mark (d := 0) hm
    exact ⟨h', qe_up (by omega) a1, a2, a3, Or.inl a4⟩)
  have c0 := qst_c0 hs
  obtain ⟨cn, v1, v10, v14, v17, v18, v19, v20, v21, c14, -⟩ := mst_th hm0
  refine ⟨h', ⟨B, Q, mx, kd, J, T, qlj_le hj2 (by omega) (by omega), h0⟩, fun i x5 x6 o hg => ?_⟩
  refine qg_pls (n := 1) (k' := 166) (lo' := [some (.retAddr 3002), some (.ref 0), some (.ref 14), some (.ref 26), some (i), x5, x6]) (S' := [.ref 0]) (h' := h) rfl ?_
  refine qg_call (v := some (.int (zfold 0 Q))) (h' := h) (as := [.ref 0]) rfl rfl rfl rfl rfl rfl rfl (ai_rcv1 rfl rfl c0) (g1) ?_
  show qg L xs _ qm_law 167 [some (.retAddr 3002), some (.ref 0), some (.ref 14), some (.ref 26), some (i), x5, x6] [.int (zfold 0 Q)] h _
  refine qg_pls (n := 1) (k' := 168) (lo' := [some (.retAddr 3002), some (.ref 0), some (.ref 14), some (.ref 26), some (i), x5, x6]) (S' := [.ref 14, .int (zfold 0 Q)]) (h' := h) rfl ?_
  refine qg_call (v := some (.int (zfold 0 Q))) (h' := h') (as := [.ref 14]) rfl rfl rfl rfl rfl rfl rfl (ai_rcv1 rfl rfl c14) (g2) ?_
  show qg L xs _ qm_law 169 [some (.retAddr 3002), some (.ref 0), some (.ref 14), some (.ref 26), some (i), x5, x6] [.int (zfold 0 Q), .int (zfold 0 Q)] h' _
  refine qg_icmp true rfl ((qb_eqT rfl)) rfl ?_
  exact hg
theorem l_depth (hl : qlI h C S) : ∃ h', qlI h' (C + 128) (S + 12) ∧ ∀ i x5 x6 o, qg L xs 2000 qm_law 193 [some (.retAddr 3002), some (.ref 0), some (.ref 14), some (.ref 26), some i, x5, x6] [] h' o → qg L xs 2000 qm_law 179 [some (.retAddr 3002), some (.ref 0), some (.ref 14), some (.ref 26), some i, x5, x6] [] h o := by
  obtain ⟨B, Q, mx, kd, J, T, hj, h0⟩ := hl
  obtain ⟨⟨tb, tl, pb, pl, so, fr, to, n, hs⟩, hm0, f, c26⟩ := qlj_s hj
  have g1 : qe L xs 2000 103 [.ref 0] h (.inl (some (.int (nI mx))), h) := qe_up (by omega) (q_depth (d := 0) hs)
  obtain ⟨h', g2, hj2⟩ := qlj_m (R := fun h' => qe L xs 2000 198 [.ref 14] h (.inl (some (.int (nI mx))), h')) hj (fun hm => by
    obtain ⟨h', a1, a2, a3, a4⟩ := m_depth (d := 0) hm
    exact ⟨h', qe_up (by omega) a1, a2, a3, Or.inl a4⟩)
  have c0 := qst_c0 hs
  obtain ⟨cn, v1, v10, v14, v17, v18, v19, v20, v21, c14, -⟩ := mst_th hm0
  refine ⟨h', ⟨B, Q, mx, kd, J, T, qlj_le hj2 (by omega) (by omega), h0⟩, fun i x5 x6 o hg => ?_⟩
  refine qg_pls (n := 1) (k' := 180) (lo' := [some (.retAddr 3002), some (.ref 0), some (.ref 14), some (.ref 26), some (i), x5, x6]) (S' := [.ref 0]) (h' := h) rfl ?_
  refine qg_call (v := some (.int (nI mx))) (h' := h) (as := [.ref 0]) rfl rfl rfl rfl rfl rfl rfl (ai_rcv1 rfl rfl c0) (g1) ?_
  show qg L xs _ qm_law 181 [some (.retAddr 3002), some (.ref 0), some (.ref 14), some (.ref 26), some (i), x5, x6] [.int (nI mx)] h _
  refine qg_pls (n := 1) (k' := 182) (lo' := [some (.retAddr 3002), some (.ref 0), some (.ref 14), some (.ref 26), some (i), x5, x6]) (S' := [.ref 14, .int (nI mx)]) (h' := h) rfl ?_
  refine qg_call (v := some (.int (nI mx))) (h' := h') (as := [.ref 14]) rfl rfl rfl rfl rfl rfl rfl (ai_rcv1 rfl rfl c14) (g2) ?_
  show qg L xs _ qm_law 183 [some (.retAddr 3002), some (.ref 0), some (.ref 14), some (.ref 26), some (i), x5, x6] [.int (nI mx), .int (nI mx)] h' _
  refine qg_icmp true rfl ((qb_eqT rfl)) rfl ?_
  exact hg
theorem l_names (hl : qlI h C S) : ∃ h', qlI h' (C + 128) (S + 12) ∧ ∀ i x5 x6 o, qg L xs 2000 qm_law 193 [some (.retAddr 3002), some (.ref 0), some (.ref 14), some (.ref 26), some i, x5, x6] [] h' o → qg L xs 2000 qm_law 172 [some (.retAddr 3002), some (.ref 0), some (.ref 14), some (.ref 26), some i, x5, x6] [] h o := by
  obtain ⟨B, Q, mx, kd, J, T, hj, h0⟩ := hl
  obtain ⟨⟨tb, tl, pb, pl, so, fr, to, n, hs⟩, hm0, f, c26⟩ := qlj_s hj
  have hQl : Q.length ≤ 524288 := by
    obtain ⟨_, _, _, _, _, _, _, _, -, ⟨_, -, -, q3, ⟨e, e1, e2⟩, -⟩, -⟩ := hs
    have := p2_le e1
    have q5 : 2 ^ 11 = 2048 := rfl
    omega
  have heq := names_eq hm0
  obtain ⟨h1, g1, hj1⟩ := qlj_n (R := fun h' => qe L xs 2000 97 [.ref 0] h (.inl (some (.int (nI (zdn [] (jnm T J))))), h')) hj (fun tb tl pb pl so fr to n sb k hs hn ha => by
    obtain ⟨h', sb', k', a1, a2, a3, a4⟩ := q_names (L := L) (xs := xs) (d := 0) hs hn ha hQl
    rw [heq] at a1
    exact ⟨h', sb', k', qe_up (by omega) a1, a2, a3, a4⟩)
  obtain ⟨-, hm1, -⟩ := qlj_s hj1
  obtain ⟨h', g2, hj2⟩ := qlj_m (R := fun h' => qe L xs 2000 195 [.ref 14] h1 (.inl (some (.int (nI (zdn [] (jnm T J))))), h')) hj1 (fun hm => by
    obtain ⟨h', a1, a2, a3, a4⟩ := m_names (L := L) (xs := xs) (d := 0) hm (mst_N hm h0)
    exact ⟨h', qe_up (by omega) a1, a2, a3, Or.inl a4⟩)
  have c0 := qst_c0 hs
  obtain ⟨cn, v1, v10, v14, v17, v18, v19, v20, v21, c14, -⟩ := mst_th hm1
  refine ⟨h', ⟨B, Q, mx, kd, J, T, qlj_le hj2 (by omega) (by omega), h0⟩, fun i x5 x6 o hg => ?_⟩
  refine qg_pls (n := 1) (k' := 173) (lo' := [some (.retAddr 3002), some (.ref 0), some (.ref 14), some (.ref 26), some (i), x5, x6]) (S' := [.ref 0]) (h' := h) rfl ?_
  refine qg_call (v := some (.int (nI (zdn [] (jnm T J))))) (h' := h1) (as := [.ref 0]) rfl rfl rfl rfl rfl rfl rfl (ai_rcv1 rfl rfl c0) (g1) ?_
  show qg L xs _ qm_law 174 [some (.retAddr 3002), some (.ref 0), some (.ref 14), some (.ref 26), some (i), x5, x6] [.int (nI (zdn [] (jnm T J)))] h1 _
  refine qg_pls (n := 1) (k' := 175) (lo' := [some (.retAddr 3002), some (.ref 0), some (.ref 14), some (.ref 26), some (i), x5, x6]) (S' := [.ref 14, .int (nI (zdn [] (jnm T J)))]) (h' := h1) rfl ?_
  refine qg_call (v := some (.int (nI (zdn [] (jnm T J))))) (h' := h') (as := [.ref 14]) rfl rfl rfl rfl rfl rfl rfl (ai_rcv1 rfl rfl c14) (g2) ?_
  show qg L xs _ qm_law 176 [some (.retAddr 3002), some (.ref 0), some (.ref 14), some (.ref 26), some (i), x5, x6] [.int (nI (zdn [] (jnm T J))), .int (nI (zdn [] (jnm T J)))] h' _
  refine qg_icmp true rfl ((qb_eqT rfl)) rfl ?_
  exact hg
end LAY
