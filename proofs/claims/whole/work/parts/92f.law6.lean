/-! THE LAW'S STEPS: end. (Printed by wip/whole/pp.py from wip/whole/src.) -/
section LBB
variable {L : Nat} {xs : Nat → Int32} {h : ai_H} {C S : Nat}
theorem l_end0 {h1 h2 : ai_H} {t : Int32} {j : Nat} (hj : j + 6 ≤ L) (hL : L ≤ 3072) {v1 : List Value} {v2 : List Value} (c14 : h1.1[14]? = some (ai_obj 5 v1)) (c14' : h2.1[14]? = some (ai_obj 5 v2)) (g1 : qe L xs 2000 110 [.ref 0, .int (xs (j + 1))] h (.inl (some (.int t)), h1)) (g2 : qe L xs 2000 117 [.ref 14, .int (xs (j + 1))] h1 (.inl none, h2)) (g3 : qe L xs 2000 115 [.ref 14] h2 (.inl (some (.int t)), h2)) (x5 x6 : Option Value) (o : ai_O) (hg : qg L xs 2000 qm_law 193 [some (.retAddr 3002), some (.ref 0), some (.ref 14), some (.ref 26), some (.int (nI j)), some (.int t), x6] [] h2 o) : qg L xs 2000 qm_law 87 [some (.retAddr 3002), some (.ref 0), some (.ref 14), some (.ref 26), some (.int (nI j)), x5, x6] [] h o := by
  refine qg_pls (n := 5) (k' := 92) (lo' := [some (.retAddr 3002), some (.ref 0), some (.ref 14), some (.ref 26), some (.int (nI j)), x5, x6]) (S' := [.int ((nI j) + 1), .retAddr 3002, .ref 0]) (h' := h) rfl ?_
  rw [show nI j + 1 = nI (j + 1) from nI_add _ 1]
  refine qg_ald rfl (fun _ _ _ => rfl) qZ_sc (by omega) (by omega) ?_
  refine qg_call (v := some (.int t)) (h' := h1) (as := [.ref 0, .int (xs (j + 1))]) rfl rfl rfl rfl rfl rfl rfl rfl (g1) ?_
  show qg L xs _ qm_law 94 [some (.retAddr 3002), some (.ref 0), some (.ref 14), some (.ref 26), some (.int (nI j)), x5, x6] [.int t] h1 _
  refine qg_pls (n := 6) (k' := 100) (lo' := [some (.retAddr 3002), some (.ref 0), some (.ref 14), some (.ref 26), some (.int (nI j)), some (.int t), x6]) (S' := [.int ((nI j) + 1), .retAddr 3002, .ref 14]) (h' := h1) rfl ?_
  rw [show nI j + 1 = nI (j + 1) from nI_add _ 1]
  refine qg_ald rfl (fun _ _ _ => rfl) qZ_sc (by omega) (by omega) ?_
  refine qg_call (v := none) (h' := h2) (as := [.ref 14, .int (xs (j + 1))]) rfl rfl rfl rfl rfl rfl rfl (ai_rcv1 rfl rfl c14) (g2) ?_
  show qg L xs _ qm_law 102 [some (.retAddr 3002), some (.ref 0), some (.ref 14), some (.ref 26), some (.int (nI j)), some (.int t), x6] [] h2 _
  refine qg_pls (n := 1) (k' := 103) (lo' := [some (.retAddr 3002), some (.ref 0), some (.ref 14), some (.ref 26), some (.int (nI j)), some (.int t), x6]) (S' := [.ref 14]) (h' := h2) rfl ?_
  refine qg_call (v := some (.int t)) (h' := h2) (as := [.ref 14]) rfl rfl rfl rfl rfl rfl rfl (ai_rcv1 rfl rfl c14') (g3) ?_
  show qg L xs _ qm_law 104 [some (.retAddr 3002), some (.ref 0), some (.ref 14), some (.ref 26), some (.int (nI j)), some (.int t), x6] [.int t] h2 _
  refine qg_pls (n := 1) (k' := 105) (lo' := [some (.retAddr 3002), some (.ref 0), some (.ref 14), some (.ref 26), some (.int (nI j)), some (.int t), x6]) (S' := [.int t, .int t]) (h' := h2) rfl ?_
  refine qg_icmp true rfl ((qb_eqT rfl)) rfl ?_
  refine qg_pls (n := 1) (k' := 193) (lo' := [some (.retAddr 3002), some (.ref 0), some (.ref 14), some (.ref 26), some (.int (nI j)), some (.int t), x6]) (S' := []) (h' := h2) rfl ?_
  exact hg
theorem l_end (hl : qlI h C S) {j : Nat} (hj : j + 6 ≤ L) (hL : L ≤ 3072) : ∃ h' t, qlI h' (C + 128) (S + 12) ∧ ∀ x5 x6 o, qg L xs 2000 qm_law 193 [some (.retAddr 3002), some (.ref 0), some (.ref 14), some (.ref 26), some (.int (nI j)), some (.int t), x6] [] h' o → qg L xs 2000 qm_law 87 [some (.retAddr 3002), some (.ref 0), some (.ref 14), some (.ref 26), some (.int (nI j)), x5, x6] [] h o := by
  obtain ⟨B, Q, mx, kd, J, T, hq, h0⟩ := hl
  obtain ⟨⟨tb, tl, pb, pl, so, fr, to, n, hs⟩, hm0, f, c26⟩ := qlj_s hq
  by_cases hB : ∃ k, k ≤ B.length ∧ xs (j + 1) = nI k
  · obtain ⟨k, hk, hx⟩ := hB
    obtain ⟨h1, g1, hj1⟩ := qlj_c (R := fun h' => qe L xs 2000 110 [.ref 0, .int (xs (j + 1))] h (.inl (some (.int 0)), h')) (B' := B.take k) (Q' := Q) (mx' := mx) (kd' := kd) hq (fun tb tl pb pl so fr to n hs => by
      obtain ⟨h', a1, a2, a3⟩ := q_endY (L := L) (xs := xs) (d := 3) hs hk
      rw [← hx] at a1
      exact ⟨h', tb, tl, pb, pl, so, fr, to, n, qe_up (by omega) (l_endY (d := 0) (qst_c0 hs) a1), a2, a3⟩)
    obtain ⟨-, hm1, -⟩ := qlj_s hj1
    obtain ⟨h', ⟨g2, g3⟩, hj2⟩ := qlj_m (R := fun h' => qe L xs 2000 117 [.ref 14, .int (xs (j + 1))] h1 (.inl none, h') ∧ qe L xs 2000 115 [.ref 14] h' (.inl (some (.int 0)), h')) hj1 (fun hm => by
      obtain ⟨h', tp, ln, cn, kp, v10, v14, v17, v18, v19, v20, v21, a1, a2, a3, a4, a5⟩ := m_endY (L := L) (xs := xs) (d := 0) hm hk
      rw [← hx] at a1
      exact ⟨h', ⟨qe_up (by omega) a1, qe_up (by omega) (m_thrown (d := 0) (t := .int 0) a5)⟩, a2, a3, Or.inl a4⟩)
    obtain ⟨-, hm2, -⟩ := qlj_s hj2
    obtain ⟨_, _, _, _, _, _, _, _, _, c14, -⟩ := mst_th hm1
    obtain ⟨_, _, _, _, _, _, _, _, _, c14', -⟩ := mst_th hm2
    exact ⟨h', 0, ⟨_, Q, mx, kd, J, T, qlj_le hj2 (by omega) (by omega), h0⟩, fun x5 x6 o hg => l_end0 hj hL c14 c14' g1 g2 g3 x5 x6 o hg⟩
  · have hx : xs (j + 1) < 0 ∨ nI B.length < xs (j + 1) := by
      rcases i32_cases (xs (j + 1)) with q | ⟨p, p1, p2⟩
      · exact Or.inl q
      · right
        have : B.length < p := Nat.lt_of_not_le (fun z => hB ⟨p, z, p2⟩)
        rw [p2]
        exact nI_lt this p1
    obtain ⟨h1, g1, hj1⟩ := qlj_c (R := fun h' => qe L xs 2000 110 [.ref 0, .int (xs (j + 1))] h (.inl (some (.int 1)), h')) (B' := B) (Q' := Q) (mx' := mx) (kd' := kd) hq (fun tb tl pb pl so fr to n hs => by
      have a1 := q_endN (L := L) (xs := xs) (d := 3) hs hx
      obtain ⟨a2, a3⟩ := qst_thr hs
      exact ⟨_, tb, tl, pb, pl, so, fr, to, n, qe_up (by omega) (l_endN (d := 0) (qst_c0 hs) a1), a2, a3⟩)
    obtain ⟨-, hm1, -⟩ := qlj_s hj1
    obtain ⟨h', ⟨g2, g3⟩, hj2⟩ := qlj_m (R := fun h' => qe L xs 2000 117 [.ref 14, .int (xs (j + 1))] h1 (.inl none, h') ∧ qe L xs 2000 115 [.ref 14] h' (.inl (some (.int 1)), h')) hj1 (fun hm => by
      obtain ⟨h', tp, ln, cn, kp, v10, v14, v17, v18, v19, v20, v21, a1, a2, a3, a4, a5⟩ := m_endN (L := L) (xs := xs) (d := 0) hm hx
      exact ⟨h', ⟨qe_up (by omega) a1, qe_up (by omega) (m_thrown (d := 0) (t := .int 0) a5)⟩, a2, a3, Or.inl a4⟩)
    obtain ⟨-, hm2, -⟩ := qlj_s hj2
    obtain ⟨_, _, _, _, _, _, _, _, _, c14, -⟩ := mst_th hm1
    obtain ⟨_, _, _, _, _, _, _, _, _, c14', -⟩ := mst_th hm2
    exact ⟨h', 1, ⟨_, Q, mx, kd, J, T, qlj_le hj2 (by omega) (by omega), h0⟩, fun x5 x6 o hg => l_end0 hj hL c14 c14' g1 g2 g3 x5 x6 o hg⟩
end LBB
